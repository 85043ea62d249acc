section
-- ===== PART A: goes FIRST, ahead of the names: the tables' words, and 'selects' of the private methods out of them =====
/-- a private method of a class that the tables say can be made, by its rows of tables_1 -/
def lw_okq (q : MethodName × Nat) : Prop := (q.1.cls ≠ "java/lang/invoke/MethodHandle" ∧ q.1.cls ≠ "java/lang/invoke/VarHandle") ∧ Cond.instantiable q.1.cls q.2 ∈ tables_1 ∧ Cond.privateMethod q.1 ∈ tables_1 ∧ Cond.instanceMethod q.1 ∈ tables_1
theorem lw_p0 : lw_okq (⟨"java/lang/Throwable", "fillInStackTrace", "(I)Ljava/lang/Throwable;"⟩, 6) := ⟨⟨by decide +kernel, by decide +kernel⟩, List.mem_of_getElem? (i := 113) (by decide +kernel), List.mem_of_getElem? (i := 111) (by decide +kernel), List.mem_of_getElem? (i := 112) (by decide +kernel)⟩
theorem lw_p1 : lw_okq (⟨"TunedWrens", "isRung", "(I)Z"⟩, 12) := ⟨⟨by decide +kernel, by decide +kernel⟩, List.mem_of_getElem? (i := 9) (by decide +kernel), List.mem_of_getElem? (i := 143) (by decide +kernel), List.mem_of_getElem? (i := 144) (by decide +kernel)⟩
theorem lw_p2 : lw_okq (⟨"TunedWrens", "stepAt", "(I)I"⟩, 12) := ⟨⟨by decide +kernel, by decide +kernel⟩, List.mem_of_getElem? (i := 9) (by decide +kernel), List.mem_of_getElem? (i := 147) (by decide +kernel), List.mem_of_getElem? (i := 148) (by decide +kernel)⟩
theorem lw_p3 : lw_okq (⟨"TunedWrens", "singFrame", "(II)I"⟩, 12) := ⟨⟨by decide +kernel, by decide +kernel⟩, List.mem_of_getElem? (i := 9) (by decide +kernel), List.mem_of_getElem? (i := 207) (by decide +kernel), List.mem_of_getElem? (i := 208) (by decide +kernel)⟩
theorem lw_p4 : lw_okq (⟨"TunedWrens", "nextRung", "(II)I"⟩, 12) := ⟨⟨by decide +kernel, by decide +kernel⟩, List.mem_of_getElem? (i := 9) (by decide +kernel), List.mem_of_getElem? (i := 211) (by decide +kernel), List.mem_of_getElem? (i := 212) (by decide +kernel)⟩
theorem lw_p5 : lw_okq (⟨"TunedWrens", "nearestRung", "(I)I"⟩, 12) := ⟨⟨by decide +kernel, by decide +kernel⟩, List.mem_of_getElem? (i := 9) (by decide +kernel), List.mem_of_getElem? (i := 218) (by decide +kernel), List.mem_of_getElem? (i := 219) (by decide +kernel)⟩
theorem lw_p6 : lw_okq (⟨"TunedWrens", "rungNotAbove", "(I)I"⟩, 12) := ⟨⟨by decide +kernel, by decide +kernel⟩, List.mem_of_getElem? (i := 9) (by decide +kernel), List.mem_of_getElem? (i := 222) (by decide +kernel), List.mem_of_getElem? (i := 223) (by decide +kernel)⟩
theorem lw_p7 : lw_okq (⟨"TunedWrens", "rungAbove", "(I)I"⟩, 12) := ⟨⟨by decide +kernel, by decide +kernel⟩, List.mem_of_getElem? (i := 9) (by decide +kernel), List.mem_of_getElem? (i := 226) (by decide +kernel), List.mem_of_getElem? (i := 227) (by decide +kernel)⟩
theorem lw_p8 : lw_okq (⟨"TunedWrens", "nextNudge", "(III)I"⟩, 12) := ⟨⟨by decide +kernel, by decide +kernel⟩, List.mem_of_getElem? (i := 9) (by decide +kernel), List.mem_of_getElem? (i := 230) (by decide +kernel), List.mem_of_getElem? (i := 231) (by decide +kernel)⟩
theorem lw_p9 : lw_okq (⟨"TunedWrens", "isLeap", "(II)Z"⟩, 12) := ⟨⟨by decide +kernel, by decide +kernel⟩, List.mem_of_getElem? (i := 9) (by decide +kernel), List.mem_of_getElem? (i := 234) (by decide +kernel), List.mem_of_getElem? (i := 235) (by decide +kernel)⟩
theorem lw_p10 : lw_okq (⟨"TunedWrens", "nudgeTowards", "(II)I"⟩, 12) := ⟨⟨by decide +kernel, by decide +kernel⟩, List.mem_of_getElem? (i := 9) (by decide +kernel), List.mem_of_getElem? (i := 241) (by decide +kernel), List.mem_of_getElem? (i := 242) (by decide +kernel)⟩
theorem lw_p11 : lw_okq (⟨"TunedWrens", "framesWithin", "(II)I"⟩, 12) := ⟨⟨by decide +kernel, by decide +kernel⟩, List.mem_of_getElem? (i := 9) (by decide +kernel), List.mem_of_getElem? (i := 334) (by decide +kernel), List.mem_of_getElem? (i := 335) (by decide +kernel)⟩
def lw_privs_1 : List (MethodName × Nat) := [(⟨"java/lang/Throwable", "fillInStackTrace", "(I)Ljava/lang/Throwable;"⟩, 6), (⟨"TunedWrens", "isRung", "(I)Z"⟩, 12), (⟨"TunedWrens", "stepAt", "(I)I"⟩, 12), (⟨"TunedWrens", "singFrame", "(II)I"⟩, 12), (⟨"TunedWrens", "nextRung", "(II)I"⟩, 12), (⟨"TunedWrens", "nearestRung", "(I)I"⟩, 12), (⟨"TunedWrens", "rungNotAbove", "(I)I"⟩, 12), (⟨"TunedWrens", "rungAbove", "(I)I"⟩, 12), (⟨"TunedWrens", "nextNudge", "(III)I"⟩, 12), (⟨"TunedWrens", "isLeap", "(II)Z"⟩, 12), (⟨"TunedWrens", "nudgeTowards", "(II)I"⟩, 12), (⟨"TunedWrens", "framesWithin", "(II)I"⟩, 12)]
theorem lw_r1 : ∀ q ∈ lw_privs_1, lw_okq q := List.forall_mem_cons.mpr ⟨lw_p0, List.forall_mem_cons.mpr ⟨lw_p1, List.forall_mem_cons.mpr ⟨lw_p2, List.forall_mem_cons.mpr ⟨lw_p3, List.forall_mem_cons.mpr ⟨lw_p4, List.forall_mem_cons.mpr ⟨lw_p5, List.forall_mem_cons.mpr ⟨lw_p6, List.forall_mem_cons.mpr ⟨lw_p7, List.forall_mem_cons.mpr ⟨lw_p8, List.forall_mem_cons.mpr ⟨lw_p9, List.forall_mem_cons.mpr ⟨lw_p10, List.forall_mem_cons.mpr ⟨lw_p11, fun _ h => absurd h List.not_mem_nil⟩⟩⟩⟩⟩⟩⟩⟩⟩⟩⟩⟩
def lw_privs : List (MethodName × Nat) := lw_privs_1
def lw_tbl : List Cond := k2_sels lw_privs ++ tables_1
theorem lw_privs_ok : ∀ q ∈ lw_privs, lw_okq q := lw_r1
end
section
/-! ===== BEGIN words of one list among another's, by their places ===== -/
theorem goodIn_r {big : List Cond} (ws : List Cond) (ps : List Nat) (hp : ws = ps.filterMap (fun i => big[i]?)) (h : ws.all goodWord = true) : GoodIn big ws := by
  intro w hw
  have h1 := List.all_eq_true.mp h w hw
  rw [hp] at hw
  obtain ⟨i, -, hi⟩ := List.mem_filterMap.mp hw
  have hm : w ∈ big := by first | exact List.mem_of_getElem? hi | exact List.getElem?_mem hi
  exact ⟨hm, good_of_word h1⟩
theorem goodIn_app {big a b : List Cond} (ha : GoodIn big a) (hb : GoodIn big b) : GoodIn big (a ++ b) := fun w h => (List.mem_append.mp h).elim (ha w) (hb w)
theorem goodIn_ca {big a b : List Cond} {c : Cond} (ha : GoodIn big (c :: a)) (hb : GoodIn big b) : GoodIn big (c :: (a ++ b)) := fun w h => (List.mem_cons.mp h).elim (fun e => ha w (List.mem_cons.mpr (Or.inl e))) (fun h => (List.mem_append.mp h).elim (fun h => ha w (List.mem_cons.mpr (Or.inr h))) (hb w))
theorem goodIn_sub {big ws : List Cond} (hm : ∀ w ∈ ws, w ∈ big) (h : ws.all goodWord = true) : GoodIn big ws := fun w hw => ⟨hm w hw, good_of_word (List.all_eq_true.mp h w hw)⟩
/-! ===== END ===== -/

/-! ===== BEGIN exceptions that leave a method, and their catching by the caller (launches without stack traces) ===== -/
section VXA
/-! The laws vx_back, vx_callV, vx_callS, vx_callSW, vx_throw0, vx_throwS follow proofs of the library, with one case more: JvmDerived/Free/Laws.lean (Back.of_free), Shelf42/LK1.lean (callV, callS), Shelf/KitTraced.lean (throwNew0V, throwNewS). -/
/-- where a method has thrown q: the class by its name, the cell, what was written, the world -/
def vx_T (XC : String → State → State → Prop) (st : State) (q : Addr) (t : State) (mc ms : Nat) (free : Addr → Prop) : Prop :=
  ∃ (E : String) (ce : Cell) (L : List Loc), XC E st t ∧ t.heap[q]? = some ce ∧ ce.vm = .none ∧ st.vm.findClass E = some ce.cls ∧ st.WarmedH t.vm ∧ st.sameButNew ({ t with vm := st.vm } : State) L mc ms ∧ ∀ z ∈ L, free z.base
def vx_Q (Qc : Array Value → State → Outcome → State → Prop) (XC : String → State → State → Prop) (mc ms : Nat) (free : Addr → Prop) : Array Value → State → Outcome → State → Prop := fun a st o t =>
  (Qc a st o t ∧ ∃ L, FrameEnd st o t L mc ms ∧ ∀ q ∈ L, free q.base) ∨ ∃ q, o = .threw q ∧ vx_T XC st q t mc ms free
/-- a callee that returns or throws -/
def vx_Met (l : Launch) (y : MethodName) (ws : List Cond) (rm : Room) (Pc : Array Value → State → Prop) (Qc : Array Value → State → Outcome → State → Prop) (XC : String → State → State → Prop) (mc ms : Nat) (free : Addr → Prop) : Prop :=
  MetFree l y (headSpec ws rm) Pc (fun _ _ _ _ _ => True) (vx_Q Qc XC mc ms free)
def vx_Post (XC : String → State → State → Prop) (mc ms : Nat) (free : Addr → Prop) : Pt → Array Value → Addr → Pt → Prop := fun A a q B =>
  ∃ (g : JFrame) (mk : MethodId) (t : State) (L : List Loc) (E : String) (ce : Cell), B.U.heap = t.heap ∧ B.U.vm = t.vm ∧ XC E (A.U.calling g mk a) t ∧ t.heap[q]? = some ce ∧ ce.vm = .none ∧ A.U.vm.findClass E = some ce.cls ∧ B.locs = A.locs ++ L ∧ (∀ z ∈ L, free z.base) ∧ B.cells = A.cells + mc ∧ B.slots = A.slots + ms
def vx_Back (l : Launch) (R : Room) (p : Program) (e : Env) (below : List Frame) (s : State) (sargs : Array Value) (y : MethodName) (len W9 : Nat)
    (Pre : Pt → Array Value → Prop) (Post : Pt → Array Value → Option Value → Pt → Prop) (PostX : Pt → Array Value → Addr → Pt → Prop) : Prop :=
  ∀ (m : MethodId) (meth : Method) (c : Code) (A : Pt) (g : JFrame) (ig : Instr) (mk : MethodId) (a : Array Value),
    Stand p l e R s m sargs below meth c A.U A.locs A.cells A.slots → g.method = m → g.locals.size = c.maxLocals → decode c.code g.pc = .ok (ig, len) →
    2 * g.monitorRoom + (g.stack.map fun v => v.category).sum ≤ W9 → A.U.methodNamed? y = some mk → Pre A a →
    (∃ (v : Option Value) (B : Pt), Stand p l e R s m sargs below meth c B.U B.locs B.cells B.slots ∧ Post A a v B ∧
      Steps p.tables e below (doInvoke e (A.U.setTop g) [] mk a).1 (B.U.setTop { g with pc := g.pc + len, stack := v.toList ++ g.stack })) ∨
    (∃ (q : Addr) (B : Pt), Stand p l e R s m sargs below meth c B.U B.locs B.cells B.slots ∧ PostX A a q B ∧
      Steps p.tables e below (doInvoke e (A.U.setTop g) [] mk a).1 ((B.U.setTop g).pushFrame (.throwing q)))
section Payer
variable {l : Launch} {R : Room} {p : Program} {e : Env} {below : List Frame} {s : State} {sargs : Array Value} {y : MethodName} {len W9 : Nat}
theorem vx_back {ws : List Cond} {rm : Room} {Pc : Array Value → State → Prop} {Qc : Array Value → State → Outcome → State → Prop} {XC : String → State → State → Prop} {mc ms : Nat} {free : Addr → Prop} {bytes : ByteArray} {maxL : Nat} {ret : Option FieldType}
    (hM : vx_Met l y ws rm Pc Qc XC mc ms free) (hblind : FrameBlind Pc) (hrc : rm.cells = mc) (hrs : rm.slots = ms)
    (hframes : rm.frames + 1 ≤ R.frames) (hlocals : W9 + (maxL + 11) + rm.locals ≤ R.locals)
    (hws : ∀ w ∈ ws, ∀ a' U, s.WarmedH U.vm → w.before a' U = true) (hcode : Cond.code y bytes maxL ret ∈ ws) (hinit : ∀ a' U, s.WarmedH U.vm → (Cond.initialized y.cls).before a' U = true) :
    vx_Back l R p e below s sargs y len W9 (PreOf R mc ms Pc) (PostOf Qc mc ms free) (vx_Post XC mc ms free) := by
  intro m meth c A g ig mk a X hg hsize hdg hW hn hp
  have h1 : (headSpec ws rm).pre.before a A.U = true := atoms_intro fun w hw => hws w hw _ _ X.warmed
  have h2 : (Cond.code y bytes maxL ret).before a A.U = true := hws _ hcode _ _ X.warmed
  have h3 : (Cond.initialized y.cls).before a A.U = true := hinit _ _ X.warmed
  have h4 : A.cells + (headSpec ws rm).room.cells ≤ R.cells := by rw [show (headSpec ws rm).room.cells = mc from hrc]; exact hp.1
  have h5 : A.slots + (headSpec ws rm).room.slots ≤ R.slots := by rw [show (headSpec ws rm).room.slots = ms from hrs]; exact hp.2.1
  have hPc : Pc a (A.U.calling g mk a) := hblind _ _ _ _ hp.2.2
  obtain ⟨U, Ls, c0, s0⟩ := A
  dsimp only [Pt.U, Pt.locs, Pt.cells, Pt.slots] at h1 h2 h3 h4 h5 X hn hPc ⊢
  obtain ⟨methY, cY, hmY, hcY, -, hlY, -, -, -, -⟩ := Cond.code_spec hn h2
  obtain ⟨kY, hkY, -⟩ := className_of_methodNamed hn
  have hinitY : kY.init = .initialized := Cond.initialized_spec (findClass_of_methodNamed hn) hkY h3
  have h : At U g.method c below := by rw [hg]; exact X.here
  have hlocals9 : W9 + (maxL + 11) + (headSpec ws rm).room.locals ≤ R.locals := hlocals
  have happ : (headSpec ws rm).appliesLoose y e.platform (U.calling g mk a) = true :=
    Spec.appliesLoose_calling (g := g) h hdg hn hkY hinitY
      (X.room_calling (g := g) (R' := (headSpec ws rm).room) hsize hmY hcY hframes (by rw [hlY]; omega) h4 h5) h1
  obtain ⟨mid, hmid⟩ := h.above
  have hfr : (U.setTop g).frames = (.java g :: mid) ++ below := by rw [State.frames_setTop' g h.top, hmid]; rfl
  obtain ⟨o, s₂, hsteps, -, hend, hq⟩ := Steps.callFree hM p X.admits X.cas X.clock (acts := []) hfr happ hPc trivial
  have hq' : vx_Q Qc XC mc ms free a (U.calling g mk a) o s₂ := hq
  rw [State.frames_setTop' g h.top] at hend
  obtain ⟨g₀, hg0⟩ := Option.isSome_iff_exists.mp h.top
  obtain ⟨r, hr⟩ := State.topJava?_eq_some.mp hg0
  have hr' : (({ U with heap := s₂.heap, slotsUsed := s₂.slotsUsed } : State).setVm s₂.vm).frames = .java g₀ :: r := hr
  rcases hq' with ⟨hqc, L, hfe, hL⟩ | ⟨q, rfl, E, ce, L, hx, hce, hcv, hcl, hW₂, hsm, hL⟩
  · obtain ⟨⟨v, rfl⟩, hW₂, e2, q2, q3, q4, q5, q6⟩ := id hfe
    have e3 : s₂ = ({ (U.calling g mk a).setFrames s₂.frames with heap := s₂.heap, slotsUsed := s₂.slotsUsed } : State).setVm s₂.vm := by
      have : s₂ = ({ s₂ with vm := (U.calling g mk a).vm } : State).setVm s₂.vm := rfl
      rw [e2] at this
      exact this
    obtain ⟨c₂, i₂, len₂, hc₂, hd₂, hf₂⟩ := hend
    have hW' : U.WarmedH s₂.vm := hW₂
    have hcc : c₂ = c := by
      have h1 : s₂.code? g.method = U.code? g.method := by
        rw [State.code?_eq, State.code?_eq, hW'.alike.method?]
      exact Option.some.inj (hc₂.symm.trans (h1.trans h.code))
    subst hcc
    have hlen : len₂ = len := by rw [hdg] at hd₂; cases hd₂; rfl
    subst hlen
    have hs₂ : s₂ = (({ U with heap := s₂.heap, slotsUsed := s₂.slotsUsed } : State).setVm s₂.vm).setTop { g with pc := g.pc + len₂, stack := v.toList ++ g.stack } := by
      refine e3.trans ?_
      rw [hf₂, State.calling_eq h.top, State.setFrames_setFrames, State.setTop_of_frames _ hr', hr]
      rfl
    have hsame : U.sameButNew ({ U with heap := s₂.heap, slotsUsed := s₂.slotsUsed } : State) L mc ms := by
      refine ⟨?_, q2, q3, q4, q5, q6⟩
      obtain ⟨t, ht, -⟩ := State.frames_cons hr
      show ({ U with heap := s₂.heap, slotsUsed := s₂.slotsUsed } : State) = { U.setFrames U.frames with heap := s₂.heap, slotsUsed := s₂.slotsUsed }
      rw [State.setFrames_self ht]
    subst hg
    refine Or.inl ⟨v, ⟨(({ U with heap := s₂.heap, slotsUsed := s₂.slotsUsed } : State).setVm s₂.vm), Ls ++ L, c0 + mc, s0 + ms⟩,
      ⟨X.admits, X.cas, X.clock, X.frames, X.room, X.hears, X.method, X.code, (X.here.setHeapUsed s₂.heap s₂.slotsUsed).setVm hW'.alike, X.tail, State.WarmedH.trans X.warmed hW', X.limits, X.bytes, X.same.trans (hsame.setVm s.vm)⟩,
      ⟨g, mk, s₂, L, rfl, rfl, hqc, rfl, hL, rfl, rfl⟩, ?_⟩
    show Steps p.tables e below _ ((({ U with heap := s₂.heap, slotsUsed := s₂.slotsUsed } : State).setVm s₂.vm).setTop { g with pc := g.pc + len₂, stack := v.toList ++ g.stack })
    rw [← hs₂]
    exact hsteps
  · obtain ⟨e2, q2, q3, q4, q5, q6⟩ := id hsm
    have e3 : s₂ = ({ (U.calling g mk a).setFrames s₂.frames with heap := s₂.heap, slotsUsed := s₂.slotsUsed } : State).setVm s₂.vm := by
      have : s₂ = ({ s₂ with vm := (U.calling g mk a).vm } : State).setVm s₂.vm := rfl
      rw [e2] at this
      exact this
    have hf₂ : s₂.frames = .throwing q :: .java g :: U.frames.tail := hend
    have hW' : U.WarmedH s₂.vm := hW₂
    have hs₂ : s₂ = ((({ U with heap := s₂.heap, slotsUsed := s₂.slotsUsed } : State).setVm s₂.vm).setTop g).pushFrame (.throwing q) := by
      refine e3.trans ?_
      rw [hf₂, State.calling_eq h.top, State.setFrames_setFrames, State.pushFrame, State.frames_setTop _ hr', State.setTop_of_frames _ hr', State.setFrames_setFrames, hr]
      rfl
    have hsame : U.sameButNew ({ U with heap := s₂.heap, slotsUsed := s₂.slotsUsed } : State) L mc ms := by
      refine ⟨?_, q2, q3, q4, q5, q6⟩
      obtain ⟨t, ht, -⟩ := State.frames_cons hr
      show ({ U with heap := s₂.heap, slotsUsed := s₂.slotsUsed } : State) = { U.setFrames U.frames with heap := s₂.heap, slotsUsed := s₂.slotsUsed }
      rw [State.setFrames_self ht]
    subst hg
    refine Or.inr ⟨q, ⟨(({ U with heap := s₂.heap, slotsUsed := s₂.slotsUsed } : State).setVm s₂.vm), Ls ++ L, c0 + mc, s0 + ms⟩,
      ⟨X.admits, X.cas, X.clock, X.frames, X.room, X.hears, X.method, X.code, (X.here.setHeapUsed s₂.heap s₂.slotsUsed).setVm hW'.alike, X.tail, State.WarmedH.trans X.warmed hW', X.limits, X.bytes, X.same.trans (hsame.setVm s.vm)⟩,
      ⟨g, mk, s₂, L, E, ce, rfl, rfl, hx, hce, hcv, hcl, rfl, hL, rfl, rfl⟩, ?_⟩
    show Steps p.tables e below _ (((({ U with heap := s₂.heap, slotsUsed := s₂.slotsUsed } : State).setVm s₂.vm).setTop g).pushFrame (.throwing q))
    rw [← hs₂]
    exact hsteps
end Payer
section Calls
variable {p : Program} {l : Launch} {e : Env} {R : Room} {s : State} {m : MethodId} {args : Array Value} {below : List Frame} {meth : Method} {c : Code} {T : State} {locs : List Loc} {cells slots : Nat}
theorem vx_callV (X : Stand p l e R s m args below meth c T locs cells slots) (hexec : p.tables.exec = Jvm.exec) {own C : String} {index : Nat} {y : MethodName} {bytes : ByteArray} {maxL : Nat} {ret : Option FieldType}
    (hown : s.vm.findClass own = some m.cls) (hlink : (Cond.methodLink own index y).before args s = true) (hinst : (Cond.instanceMethod y).before args s = true) (hsel : (Cond.selects C y y).before args s = true)
    (hcode : (Cond.code y bytes maxL ret).before args s = true) (hy : y.cls ≠ "java/lang/invoke/MethodHandle" ∧ y.cls ≠ "java/lang/invoke/VarHandle")
    {W9 : Nat} {Pre : Pt → Array Value → Prop} {Post : Pt → Array Value → Option Value → Pt → Prop} {PostX : Pt → Array Value → Addr → Pt → Prop} (hK : vx_Back l R p e below s args y 3 W9 Pre Post PostX)
    {b : Addr} {cellB : Cell} (hcell : T.heap[b]? = some cellB) (hobj : cellB.vm.isStatics = false) (hcls : s.vm.findClass C = some cellB.cls)
    {g : JFrame} (hg : g.method = m) (hsize : g.locals.size = c.maxLocals) {argsL rest : List Value} (hlen : ∀ sig, parseMethodDescriptor y.desc = some sig → argsL.length = sig.parameters.length)
    (hstack : g.stack = argsL.reverse ++ .ref b :: rest) (hW : 2 * g.monitorRoom + (rest.map fun v => v.category).sum ≤ W9) (hdg : decode c.code g.pc = .ok (.invokevirtual index, 3))
    (hpre : ∀ vm₁, s.WarmedH vm₁ → Pre ⟨T.setVm vm₁, locs, cells, slots⟩ (Value.ref b :: argsL).toArray) :
    (∃ (v : Option Value) (vm₁ : Vm) (B : Pt), s.WarmedH vm₁ ∧ Stand p l e R s m args below meth c B.U B.locs B.cells B.slots ∧ Post ⟨T.setVm vm₁, locs, cells, slots⟩ (Value.ref b :: argsL).toArray v B ∧
      ∀ target, Steps p.tables e below (B.U.setTop { g with pc := g.pc + 3, stack := v.toList ++ rest }) target → Steps p.tables e below (T.setTop g) target) ∨
    (∃ (q : Addr) (vm₁ : Vm) (B : Pt), s.WarmedH vm₁ ∧ Stand p l e R s m args below meth c B.U B.locs B.cells B.slots ∧ PostX ⟨T.setVm vm₁, locs, cells, slots⟩ (Value.ref b :: argsL).toArray q B ∧
      Steps p.tables e below (T.setTop g) ((B.U.setTop { g with stack := rest }).pushFrame (.throwing q))) := by
  obtain ⟨mk, methM, hnamed, hmethM, hstM, habM⟩ := Cond.instanceMethod_spec hinst
  obtain ⟨methM', cM, hmethM', -, -, -, -, -, -, hsigM⟩ := Cond.code_spec hnamed hcode
  cases hmethM.symm.trans hmethM'
  obtain ⟨c2, r2, m2, q1, q2, q3, q4, kP, hkP, hkPi⟩ := Cond.selects_spec hsel
  cases hcls.symm.trans q1
  cases (State.methodFound?_of_named hnamed hy).symm.trans q2
  cases hnamed.symm.trans q3
  have hselP : selectMethod e.platform s.vm cellB.cls mk = .method mk := by rw [Launch.admits_selectMethod X.admits]; exact q4
  obtain ⟨vm₁, X₁, hstep₁⟩ := X.invokevirtual hexec hown hlink hnamed hmethM hstM hkP hkPi hy (a := b) (cell := cellB) hcell
    (fun z h => by rw [h] at hobj; cases hobj) hselP hmethM habM hkP hkPi (g := g) hg (argsL := argsL) (rest := rest) (hlen _ hsigM) hstack hdg
  rcases hK m meth c ⟨T.setVm vm₁, locs, cells, slots⟩ { g with stack := rest } (.invokevirtual index) mk (Value.ref b :: argsL).toArray X₁ hg hsize hdg hW (X₁.named hnamed) (hpre vm₁ X₁.warmed) with ⟨v, B, X', hpost, hsteps⟩ | ⟨q, B, X', hpost, hsteps⟩
  · exact Or.inl ⟨v, vm₁, B, X₁.warmed, X', hpost, fun target h => hstep₁ _ fun acts => by rw [doInvoke_state]; exact hsteps.trans h⟩
  · exact Or.inr ⟨q, vm₁, B, X₁.warmed, X', hpost, hstep₁ _ fun acts => by rw [doInvoke_state]; exact hsteps⟩
theorem vx_callS (X : Stand p l e R s m args below meth c T locs cells slots) (hexec : p.tables.exec = Jvm.exec) {own : String} {index : Nat} {y : MethodName} {bytes : ByteArray} {maxL : Nat} {ret : Option FieldType}
    (hown : s.vm.findClass own = some m.cls) (hlink : (Cond.methodLink own index y).before args s = true) (hstat : (Cond.static y).before args s = true) (hinit : (Cond.initialized y.cls).before args s = true)
    (hcode : (Cond.code y bytes maxL ret).before args s = true) (hy : y.cls ≠ "java/lang/invoke/MethodHandle" ∧ y.cls ≠ "java/lang/invoke/VarHandle")
    {W9 : Nat} {Pre : Pt → Array Value → Prop} {Post : Pt → Array Value → Option Value → Pt → Prop} {PostX : Pt → Array Value → Addr → Pt → Prop} (hK : vx_Back l R p e below s args y 3 W9 Pre Post PostX)
    {g : JFrame} (hg : g.method = m) (hsize : g.locals.size = c.maxLocals) {argsL rest : List Value} (hlen : ∀ sig, parseMethodDescriptor y.desc = some sig → argsL.length = sig.parameters.length)
    (hstack : g.stack = argsL.reverse ++ rest) (hW : 2 * g.monitorRoom + (rest.map fun v => v.category).sum ≤ W9) (hdg : decode c.code g.pc = .ok (.invokestatic index, 3))
    (hpre : ∀ vm₁, s.WarmedH vm₁ → Pre ⟨T.setVm vm₁, locs, cells, slots⟩ argsL.toArray) :
    (∃ (v : Option Value) (vm₁ : Vm) (B : Pt), s.WarmedH vm₁ ∧ Stand p l e R s m args below meth c B.U B.locs B.cells B.slots ∧ Post ⟨T.setVm vm₁, locs, cells, slots⟩ argsL.toArray v B ∧
      ∀ target, Steps p.tables e below (B.U.setTop { g with pc := g.pc + 3, stack := v.toList ++ rest }) target → Steps p.tables e below (T.setTop g) target) ∨
    (∃ (q : Addr) (vm₁ : Vm) (B : Pt), s.WarmedH vm₁ ∧ Stand p l e R s m args below meth c B.U B.locs B.cells B.slots ∧ PostX ⟨T.setVm vm₁, locs, cells, slots⟩ argsL.toArray q B ∧
      Steps p.tables e below (T.setTop g) ((B.U.setTop { g with stack := rest }).pushFrame (.throwing q))) := by
  obtain ⟨mk, hnamed⟩ := Cond.code_named hcode
  obtain ⟨methM, cM, hmethM, -, -, -, -, -, -, hsigM⟩ := Cond.code_spec hnamed hcode
  have hstatic : methM.isStatic = true := Cond.static_spec hnamed hmethM hstat
  obtain ⟨kP, hkP, -⟩ := className_of_methodNamed hnamed
  have hinitP : kP.init = .initialized := Cond.initialized_spec (findClass_of_methodNamed hnamed) hkP hinit
  obtain ⟨vm₁, X₁, hstep₁⟩ := X.invokestatic hexec hown hlink hnamed hmethM hstatic hkP hinitP hy (g := g) hg (argsL := argsL) (rest := rest) (hlen _ hsigM) hstack hdg
  rcases hK m meth c ⟨T.setVm vm₁, locs, cells, slots⟩ { g with stack := rest } (.invokestatic index) mk argsL.toArray X₁ hg hsize hdg hW (X₁.named hnamed) (hpre vm₁ X₁.warmed) with ⟨v, B, X', hpost, hsteps⟩ | ⟨q, B, X', hpost, hsteps⟩
  · exact Or.inl ⟨v, vm₁, B, X₁.warmed, X', hpost, fun target h => hstep₁ _ fun acts => by rw [doInvoke_state]; exact hsteps.trans h⟩
  · exact Or.inr ⟨q, vm₁, B, X₁.warmed, X', hpost, hstep₁ _ fun acts => by rw [doInvoke_state]; exact hsteps⟩
end Calls
theorem vx_cls {s : State} {T : State} {vm₁ : Vm} {E : String} {k : ClassId} (hW : s.WarmedH vm₁) (h : (T.setVm vm₁).vm.findClass E = some k) : s.vm.findClass E = some k := by
  have h1 : vm₁.findClass E = some k := h
  rw [hW.alike.findClass] at h1
  exact h1
/-- the method's frame g, with q thrown over it -/
def vx_W (p : Program) (l : Launch) (e : Env) (R : Room) (s : State) (m : MethodId) (args : Array Value) (below : List Frame) (meth : Method) (c : Code) (H : Heap) (locs : List Loc) (cells slots : Nat) (Q : State → Prop) (g : JFrame) (q : Addr) : Prop :=
  ∀ T : State, T.heap = H → Stand p l e R s m args below meth c T locs cells slots → ∃ t, Steps p.tables e below ((T.setTop g).pushFrame (.throwing q)) t ∧ Q t
def vx_Run (p : Program) (l : Launch) (e : Env) (R : Room) (s : State) (m : MethodId) (args : Array Value) (below : List Frame) (meth : Method) (c : Code) (H : Heap) (locs : List Loc) (cells slots mc ms : Nat) (g : JFrame) (rest : List Value) (Qa : State → Outcome → State → Prop) (XC : String → State → State → Prop) (free : Addr → Prop) : Prop :=
  ∀ T : State, T.heap = H → Stand p l e R s m args below meth c T locs cells slots →
    (∃ (v : Option Value) (st₀ t T' : State) (L : List Loc), st₀.heap = H ∧ Stand p l e R s m args below meth c T' (locs ++ L) (cells + mc) (slots + ms) ∧ (∀ q ∈ L, free q.base) ∧ T'.heap = t.heap ∧ T'.vm = t.vm ∧ Qa st₀ (.returned v) t ∧
      Goes p e below T g T' { g with pc := g.pc + 3, stack := v.toList ++ rest }) ∨
    (∃ (q : Addr) (st₀ t T' : State) (L : List Loc) (E : String) (ce : Cell), st₀.heap = H ∧ Stand p l e R s m args below meth c T' (locs ++ L) (cells + mc) (slots + ms) ∧ (∀ z ∈ L, free z.base) ∧ T'.heap = t.heap ∧ T'.vm = t.vm ∧ XC E st₀ t ∧ t.heap[q]? = some ce ∧ ce.vm = .none ∧ s.vm.findClass E = some ce.cls ∧
      Steps p.tables e below (T.setTop g) ((T'.setTop { g with stack := rest }).pushFrame (.throwing q)))
def vx_X {S : Type} (px : S → Prop) (B : String → S → State → Prop) (A : Nat → Prop) : String → State → State → Prop := fun E st t => ∃ u : S, px u ∧ B E u t ∧ va_F A st t
section Runs
variable {p : Program} {l : Launch} {e : Env} {R : Room} {s : State} {m : MethodId} {args : Array Value} {below : List Frame} {meth : Method} {c : Code} {H : Heap} {locs : List Loc} {cells slots : Nat}
variable {y : MethodName} {bytes cc : ByteArray} {maxL nL mc ms n index : Nat} {ret : Option FieldType} {ws : List Cond} {rm : Room} {Pc : Array Value → State → Prop} {Qc : Array Value → State → Outcome → State → Prop} {XC : String → State → State → Prop} {free : Addr → Prop} {Ts : List Cond} {own C : String} {b : Addr} {As rest : List Value} {g : JFrame}
theorem vx_callBack (cb : CallB R s args own index y bytes maxL ret ws rm mc ms n) (hM : vx_Met l y ws rm Pc Qc XC mc ms free) (hbl : FrameBlind Pc) : vx_Back l R p e below s args y 3 8 (PreOf R mc ms Pc) (PostOf Qc mc ms free) (vx_Post XC mc ms free) := by
  obtain ⟨hrc, hrs, hfr, hlo, hws, hcw, -, hini, -⟩ := cb
  exact vx_back (bytes := bytes) (maxL := maxL) (ret := ret) hM hbl hrc hrs hfr hlo hws hcw (fun a' U hW => word_at hW (Or.inl (by first | rfl | simp [Cond.onTables, Cond.keeps, Cond.steady])) hini)
theorem vx_runV (S : CallFix p m c cc nL s args Ts own) (hM : vx_Met l y ws rm Pc Qc XC mc ms free) (cw : CallW R s args own C index y bytes maxL ret ws rm mc ms n) (hp : PreV s H C b Pc As)
    (hg : g.method = m) (hn : As.length = n) (hsize : g.locals.size = nL) (hstack : g.stack = As.reverse ++ .ref b :: rest) (hW : 2 * g.monitorRoom + (rest.map fun v => v.category).sum ≤ 8) (hdg : decode cc g.pc = .ok (.invokevirtual index, 3)) (hf : cells + mc ≤ R.cells ∧ slots + ms ≤ R.slots) :
    vx_Run p l e R s m args below meth c H locs cells slots mc ms g rest (Qc (Value.ref b :: As).toArray) XC free := by
  have hK : vx_Back l R p e below s args y 3 8 (PreOf R mc ms Pc) (PostOf Qc mc ms free) (vx_Post XC mc ms free) := vx_callBack cw.1 hM hp.1
  obtain ⟨⟨-, -, -, -, -, -, hcode, -, hy, hlen, hl⟩, hin, hse⟩ := cw
  obtain ⟨hx, hb, hml, ho, -⟩ := S
  obtain ⟨-, ⟨cellB, hcB, hoB, hclB⟩, hPc⟩ := hp
  intro T hT X
  rcases vx_callV X hx (C := C) (bytes := bytes) (maxL := maxL) (ret := ret) ho hl hin hse hcode hy hK (by rw [hT]; exact hcB) hoB hclB hg (hsize.trans hml.symm) (argsL := As) (rest := rest) (fun sig h => hn.trans (hlen sig h)) hstack hW (by rw [hb]; exact hdg)
    (fun vm₁ hW₁ => ⟨hf.1, hf.2, hPc (T.setVm vm₁) hT hW₁⟩) with ⟨v, vm₁, ⟨U', l2, c2, s2⟩, hW₁, X', ⟨g', mk, t, L, e1, e2, hq, h1, hL, h2, h3⟩, st⟩ | ⟨q, vm₁, ⟨U', l2, c2, s2⟩, hW₁, X', ⟨g', mk, t, L, E, ce, e1, e2, hq, hce, hcv, hcl, h1, hL, h2, h3⟩, st⟩
  · dsimp only [Pt.U, Pt.locs, Pt.cells, Pt.slots] at X' e1 e2 h1 h2 h3 st
    subst h1; subst h2; subst h3
    exact Or.inl ⟨v, (T.setVm vm₁).calling g' mk (Value.ref b :: As).toArray, t, U', L, hT, X', hL, e1, e2, hq, st⟩
  · dsimp only [Pt.U, Pt.locs, Pt.cells, Pt.slots] at X' e1 e2 h1 h2 h3 st hcl
    subst h1; subst h2; subst h3
    exact Or.inr ⟨q, (T.setVm vm₁).calling g' mk (Value.ref b :: As).toArray, t, U', L, E, ce, hT, X', hL, e1, e2, hq, hce, hcv, vx_cls hW₁ hcl, st⟩
theorem vx_runS (S : CallFix p m c cc nL s args Ts own) (hM : vx_Met l y ws rm Pc Qc XC mc ms free) (cw : CallB R s args own index y bytes maxL ret ws rm mc ms n ∧ (Cond.static y).before args s = true) (hp : PreS s H Pc As)
    (hg : g.method = m) (hn : As.length = n) (hsize : g.locals.size = nL) (hstack : g.stack = As.reverse ++ rest) (hW : 2 * g.monitorRoom + (rest.map fun v => v.category).sum ≤ 8) (hdg : decode cc g.pc = .ok (.invokestatic index, 3)) (hf : cells + mc ≤ R.cells ∧ slots + ms ≤ R.slots) :
    vx_Run p l e R s m args below meth c H locs cells slots mc ms g rest (Qc As.toArray) XC free := by
  have hK : vx_Back l R p e below s args y 3 8 (PreOf R mc ms Pc) (PostOf Qc mc ms free) (vx_Post XC mc ms free) := vx_callBack cw.1 hM hp.1
  obtain ⟨⟨-, -, -, -, -, -, hcode, hini, hy, hlen, hl⟩, hstt⟩ := cw
  obtain ⟨hx, hb, hml, ho, -⟩ := S
  intro T hT X
  rcases vx_callS X hx (bytes := bytes) (maxL := maxL) (ret := ret) ho hl hstt hini hcode hy hK hg (hsize.trans hml.symm) (argsL := As) (rest := rest) (fun sig h => hn.trans (hlen sig h)) hstack hW (by rw [hb]; exact hdg)
    (fun vm₁ hW₁ => ⟨hf.1, hf.2, hp.2 (T.setVm vm₁) hT hW₁⟩) with ⟨v, vm₁, ⟨U', l2, c2, s2⟩, hW₁, X', ⟨g', mk, t, L, e1, e2, hq, h1, hL, h2, h3⟩, st⟩ | ⟨q, vm₁, ⟨U', l2, c2, s2⟩, hW₁, X', ⟨g', mk, t, L, E, ce, e1, e2, hq, hce, hcv, hcl, h1, hL, h2, h3⟩, st⟩
  · dsimp only [Pt.U, Pt.locs, Pt.cells, Pt.slots] at X' e1 e2 h1 h2 h3 st
    subst h1; subst h2; subst h3
    exact Or.inl ⟨v, (T.setVm vm₁).calling g' mk As.toArray, t, U', L, hT, X', hL, e1, e2, hq, st⟩
  · dsimp only [Pt.U, Pt.locs, Pt.cells, Pt.slots] at X' e1 e2 h1 h2 h3 st hcl
    subst h1; subst h2; subst h3
    exact Or.inr ⟨q, (T.setVm vm₁).calling g' mk As.toArray, t, U', L, E, ce, hT, X', hL, e1, e2, hq, hce, hcv, vx_cls hW₁ hcl, st⟩
end Runs
section Rows
variable {p : Program} {l : Launch} {e : Env} {R : Room} {s : State} {m : MethodId} {args : Array Value} {below : List Frame} {meth : Method} {c : Code} {H : Heap} {locs : List Loc} {cells slots : Nat} {Q : State → Prop}
variable {mc ms : Nat} {free : Addr → Prop} {A0 A1 : Nat → Prop} {H0 : Heap} {a : Array Value} {pc : Nat} {ls : Array Slot} {st0 rest : List Value}
theorem vx_keep {st₀ t T' : State} {L : List Loc} (h0 : st₀.heap = H) (e1 : T'.heap = t.heap) (hS : va_S A0 H0 H locs) (hA : ∀ q, q < H.size → A1 q → A0 q) (hf : ∀ q, free q → A0 q) (hL : ∀ q ∈ L, free q.base) (hF : va_F A1 st₀ t) :
    H.size ≤ T'.heap.size ∧ (∀ q : Nat, q < H.size → ¬ A1 q → T'.heap[q]? = H[q]?) ∧ va_S A0 H0 T'.heap (locs ++ L) := by
  obtain ⟨hz, hk⟩ := hF
  rw [h0] at hz hk
  exact ⟨by rw [e1]; exact hz, fun q h1 h2 => by rw [e1]; exact hk q h1 h2,
    ⟨Nat.le_trans hS.1 (by rw [e1]; exact hz), fun q h1 h2 => by rw [e1, hk q (Nat.lt_of_lt_of_le h1 hS.1) (fun z => h2 (hA q (Nat.lt_of_lt_of_le h1 hS.1) z))]; exact hS.2.1 q h1 h2, fun q hq => by
      rcases List.mem_append.mp hq with h | h
      · exact hS.2.2 q h
      · exact hf _ (hL q h)⟩⟩
theorem vx_calli {S SX : Type} {post : Int32 → S → Prop} {px : SX → Prop} {B : S → State → Prop} {BX : String → SX → State → Prop} {AX : Nat → Prop} (hr : vx_Run p l e R s m args below meth c H locs cells slots mc ms (F0 m pc ls st0) rest (va_Qi post B A1 a) (vx_X px BX AX) free) (hS : va_S A0 H0 H locs) (hA : ∀ q, q < H.size → A1 q → A0 q) (hf : ∀ q, free q → A0 q) (hAX : ∀ q, q < H.size → AX q → A0 q)
    (kx : ∀ (E : String) (ce : Cell) (q9 : Addr) (u : SX) (t : State) (H1 : Heap) (locs1 : List Loc), t.heap = H1 → s.vm.Alike t.vm → px u → BX E u t → H.size ≤ H1.size → (∀ q : Nat, q < H.size → ¬ AX q → H1[q]? = H[q]?) → va_S A0 H0 H1 locs1 → H1[q9]? = some ce → ce.vm = .none → s.vm.findClass E = some ce.cls → vx_W p l e R s m args below meth c H1 locs1 (cells + mc) (slots + ms) Q (F0 m pc ls rest) q9)
    (kk : ∀ (r : Int32) (u : S) (t : State) (H1 : Heap) (locs1 : List Loc), t.heap = H1 → s.vm.Alike t.vm → post r u → B u t → H.size ≤ H1.size → (∀ q : Nat, q < H.size → ¬ A1 q → H1[q]? = H[q]?) → va_S A0 H0 H1 locs1 → W p l e R s m args below meth c H1 locs1 (cells + mc) (slots + ms) Q (F0 m (pc + 3) ls (.int r :: rest))) : W p l e R s m args below meth c H locs cells slots Q (F0 m pc ls st0) := by
  intro T hT X
  rcases hr T hT X with ⟨v, st₀, t, T', L, h0, X', hL, e1, e2, ⟨⟨r, u, hv, hp, hb⟩, hF⟩, st⟩ | ⟨q, st₀, t, T', L, E, ce, h0, X', hL, e1, e2, ⟨u, hp, hb, hF⟩, hce, hcv, hcl, st⟩
  · cases hv
    obtain ⟨k1, k2, k3⟩ := vx_keep h0 e1 hS hA hf hL hF
    obtain ⟨t2, a1, b1⟩ := kk r u t T'.heap (locs ++ L) e1.symm (by rw [← e2]; exact X'.warmed.alike) hp hb k1 k2 k3 T' rfl X'
    exact ⟨t2, st t2 a1, b1⟩
  · obtain ⟨k1, k2, k3⟩ := vx_keep h0 e1 hS hAX hf hL hF
    obtain ⟨t2, a1, b1⟩ := kx E ce q u t T'.heap (locs ++ L) e1.symm (by rw [← e2]; exact X'.warmed.alike) hp hb k1 k2 k3 (by rw [e1]; exact hce) hcv hcl T' rfl X'
    exact ⟨t2, st.trans a1, b1⟩
theorem vx_calll {S SX : Type} {post : Int64 → S → Prop} {px : SX → Prop} {B : S → State → Prop} {BX : String → SX → State → Prop} {AX : Nat → Prop} (hr : vx_Run p l e R s m args below meth c H locs cells slots mc ms (F0 m pc ls st0) rest (va_Ql post B A1 a) (vx_X px BX AX) free) (hS : va_S A0 H0 H locs) (hA : ∀ q, q < H.size → A1 q → A0 q) (hf : ∀ q, free q → A0 q) (hAX : ∀ q, q < H.size → AX q → A0 q)
    (kx : ∀ (E : String) (ce : Cell) (q9 : Addr) (u : SX) (t : State) (H1 : Heap) (locs1 : List Loc), t.heap = H1 → s.vm.Alike t.vm → px u → BX E u t → H.size ≤ H1.size → (∀ q : Nat, q < H.size → ¬ AX q → H1[q]? = H[q]?) → va_S A0 H0 H1 locs1 → H1[q9]? = some ce → ce.vm = .none → s.vm.findClass E = some ce.cls → vx_W p l e R s m args below meth c H1 locs1 (cells + mc) (slots + ms) Q (F0 m pc ls rest) q9)
    (kk : ∀ (r : Int64) (u : S) (t : State) (H1 : Heap) (locs1 : List Loc), t.heap = H1 → s.vm.Alike t.vm → post r u → B u t → H.size ≤ H1.size → (∀ q : Nat, q < H.size → ¬ A1 q → H1[q]? = H[q]?) → va_S A0 H0 H1 locs1 → W p l e R s m args below meth c H1 locs1 (cells + mc) (slots + ms) Q (F0 m (pc + 3) ls (.long r :: rest))) : W p l e R s m args below meth c H locs cells slots Q (F0 m pc ls st0) := by
  intro T hT X
  rcases hr T hT X with ⟨v, st₀, t, T', L, h0, X', hL, e1, e2, ⟨⟨r, u, hv, hp, hb⟩, hF⟩, st⟩ | ⟨q, st₀, t, T', L, E, ce, h0, X', hL, e1, e2, ⟨u, hp, hb, hF⟩, hce, hcv, hcl, st⟩
  · cases hv
    obtain ⟨k1, k2, k3⟩ := vx_keep h0 e1 hS hA hf hL hF
    obtain ⟨t2, a1, b1⟩ := kk r u t T'.heap (locs ++ L) e1.symm (by rw [← e2]; exact X'.warmed.alike) hp hb k1 k2 k3 T' rfl X'
    exact ⟨t2, st t2 a1, b1⟩
  · obtain ⟨k1, k2, k3⟩ := vx_keep h0 e1 hS hAX hf hL hF
    obtain ⟨t2, a1, b1⟩ := kx E ce q u t T'.heap (locs ++ L) e1.symm (by rw [← e2]; exact X'.warmed.alike) hp hb k1 k2 k3 (by rw [e1]; exact hce) hcv hcl T' rfl X'
    exact ⟨t2, st.trans a1, b1⟩
theorem vx_callf {S SX : Type} {post : UInt32 → S → Prop} {px : SX → Prop} {B : S → State → Prop} {BX : String → SX → State → Prop} {AX : Nat → Prop} (hr : vx_Run p l e R s m args below meth c H locs cells slots mc ms (F0 m pc ls st0) rest (va_Qf post B A1 a) (vx_X px BX AX) free) (hS : va_S A0 H0 H locs) (hA : ∀ q, q < H.size → A1 q → A0 q) (hf : ∀ q, free q → A0 q) (hAX : ∀ q, q < H.size → AX q → A0 q)
    (kx : ∀ (E : String) (ce : Cell) (q9 : Addr) (u : SX) (t : State) (H1 : Heap) (locs1 : List Loc), t.heap = H1 → s.vm.Alike t.vm → px u → BX E u t → H.size ≤ H1.size → (∀ q : Nat, q < H.size → ¬ AX q → H1[q]? = H[q]?) → va_S A0 H0 H1 locs1 → H1[q9]? = some ce → ce.vm = .none → s.vm.findClass E = some ce.cls → vx_W p l e R s m args below meth c H1 locs1 (cells + mc) (slots + ms) Q (F0 m pc ls rest) q9)
    (kk : ∀ (r : UInt32) (u : S) (t : State) (H1 : Heap) (locs1 : List Loc), t.heap = H1 → s.vm.Alike t.vm → post r u → B u t → H.size ≤ H1.size → (∀ q : Nat, q < H.size → ¬ A1 q → H1[q]? = H[q]?) → va_S A0 H0 H1 locs1 → W p l e R s m args below meth c H1 locs1 (cells + mc) (slots + ms) Q (F0 m (pc + 3) ls (.float r :: rest))) : W p l e R s m args below meth c H locs cells slots Q (F0 m pc ls st0) := by
  intro T hT X
  rcases hr T hT X with ⟨v, st₀, t, T', L, h0, X', hL, e1, e2, ⟨⟨r, u, hv, hp, hb⟩, hF⟩, st⟩ | ⟨q, st₀, t, T', L, E, ce, h0, X', hL, e1, e2, ⟨u, hp, hb, hF⟩, hce, hcv, hcl, st⟩
  · cases hv
    obtain ⟨k1, k2, k3⟩ := vx_keep h0 e1 hS hA hf hL hF
    obtain ⟨t2, a1, b1⟩ := kk r u t T'.heap (locs ++ L) e1.symm (by rw [← e2]; exact X'.warmed.alike) hp hb k1 k2 k3 T' rfl X'
    exact ⟨t2, st t2 a1, b1⟩
  · obtain ⟨k1, k2, k3⟩ := vx_keep h0 e1 hS hAX hf hL hF
    obtain ⟨t2, a1, b1⟩ := kx E ce q u t T'.heap (locs ++ L) e1.symm (by rw [← e2]; exact X'.warmed.alike) hp hb k1 k2 k3 (by rw [e1]; exact hce) hcv hcl T' rfl X'
    exact ⟨t2, st.trans a1, b1⟩
theorem vx_calld {S SX : Type} {post : UInt64 → S → Prop} {px : SX → Prop} {B : S → State → Prop} {BX : String → SX → State → Prop} {AX : Nat → Prop} (hr : vx_Run p l e R s m args below meth c H locs cells slots mc ms (F0 m pc ls st0) rest (va_Qd post B A1 a) (vx_X px BX AX) free) (hS : va_S A0 H0 H locs) (hA : ∀ q, q < H.size → A1 q → A0 q) (hf : ∀ q, free q → A0 q) (hAX : ∀ q, q < H.size → AX q → A0 q)
    (kx : ∀ (E : String) (ce : Cell) (q9 : Addr) (u : SX) (t : State) (H1 : Heap) (locs1 : List Loc), t.heap = H1 → s.vm.Alike t.vm → px u → BX E u t → H.size ≤ H1.size → (∀ q : Nat, q < H.size → ¬ AX q → H1[q]? = H[q]?) → va_S A0 H0 H1 locs1 → H1[q9]? = some ce → ce.vm = .none → s.vm.findClass E = some ce.cls → vx_W p l e R s m args below meth c H1 locs1 (cells + mc) (slots + ms) Q (F0 m pc ls rest) q9)
    (kk : ∀ (r : UInt64) (u : S) (t : State) (H1 : Heap) (locs1 : List Loc), t.heap = H1 → s.vm.Alike t.vm → post r u → B u t → H.size ≤ H1.size → (∀ q : Nat, q < H.size → ¬ A1 q → H1[q]? = H[q]?) → va_S A0 H0 H1 locs1 → W p l e R s m args below meth c H1 locs1 (cells + mc) (slots + ms) Q (F0 m (pc + 3) ls (.double r :: rest))) : W p l e R s m args below meth c H locs cells slots Q (F0 m pc ls st0) := by
  intro T hT X
  rcases hr T hT X with ⟨v, st₀, t, T', L, h0, X', hL, e1, e2, ⟨⟨r, u, hv, hp, hb⟩, hF⟩, st⟩ | ⟨q, st₀, t, T', L, E, ce, h0, X', hL, e1, e2, ⟨u, hp, hb, hF⟩, hce, hcv, hcl, st⟩
  · cases hv
    obtain ⟨k1, k2, k3⟩ := vx_keep h0 e1 hS hA hf hL hF
    obtain ⟨t2, a1, b1⟩ := kk r u t T'.heap (locs ++ L) e1.symm (by rw [← e2]; exact X'.warmed.alike) hp hb k1 k2 k3 T' rfl X'
    exact ⟨t2, st t2 a1, b1⟩
  · obtain ⟨k1, k2, k3⟩ := vx_keep h0 e1 hS hAX hf hL hF
    obtain ⟨t2, a1, b1⟩ := kx E ce q u t T'.heap (locs ++ L) e1.symm (by rw [← e2]; exact X'.warmed.alike) hp hb k1 k2 k3 (by rw [e1]; exact hce) hcv hcl T' rfl X'
    exact ⟨t2, st.trans a1, b1⟩
theorem vx_callv {S SX : Type} {post : S → Prop} {px : SX → Prop} {B : S → State → Prop} {BX : String → SX → State → Prop} {AX : Nat → Prop} (hr : vx_Run p l e R s m args below meth c H locs cells slots mc ms (F0 m pc ls st0) rest (va_Qv post B A1 a) (vx_X px BX AX) free) (hS : va_S A0 H0 H locs) (hA : ∀ q, q < H.size → A1 q → A0 q) (hf : ∀ q, free q → A0 q) (hAX : ∀ q, q < H.size → AX q → A0 q)
    (kx : ∀ (E : String) (ce : Cell) (q9 : Addr) (u : SX) (t : State) (H1 : Heap) (locs1 : List Loc), t.heap = H1 → s.vm.Alike t.vm → px u → BX E u t → H.size ≤ H1.size → (∀ q : Nat, q < H.size → ¬ AX q → H1[q]? = H[q]?) → va_S A0 H0 H1 locs1 → H1[q9]? = some ce → ce.vm = .none → s.vm.findClass E = some ce.cls → vx_W p l e R s m args below meth c H1 locs1 (cells + mc) (slots + ms) Q (F0 m pc ls rest) q9)
    (kk : ∀ (u : S) (t : State) (H1 : Heap) (locs1 : List Loc), t.heap = H1 → s.vm.Alike t.vm → post u → B u t → H.size ≤ H1.size → (∀ q : Nat, q < H.size → ¬ A1 q → H1[q]? = H[q]?) → va_S A0 H0 H1 locs1 → W p l e R s m args below meth c H1 locs1 (cells + mc) (slots + ms) Q (F0 m (pc + 3) ls (rest))) : W p l e R s m args below meth c H locs cells slots Q (F0 m pc ls st0) := by
  intro T hT X
  rcases hr T hT X with ⟨v, st₀, t, T', L, h0, X', hL, e1, e2, ⟨⟨u, hv, hp, hb⟩, hF⟩, st⟩ | ⟨q, st₀, t, T', L, E, ce, h0, X', hL, e1, e2, ⟨u, hp, hb, hF⟩, hce, hcv, hcl, st⟩
  · cases hv
    obtain ⟨k1, k2, k3⟩ := vx_keep h0 e1 hS hA hf hL hF
    obtain ⟨t2, a1, b1⟩ := kk u t T'.heap (locs ++ L) e1.symm (by rw [← e2]; exact X'.warmed.alike) hp hb k1 k2 k3 T' rfl X'
    exact ⟨t2, st t2 a1, b1⟩
  · obtain ⟨k1, k2, k3⟩ := vx_keep h0 e1 hS hAX hf hL hF
    obtain ⟨t2, a1, b1⟩ := kx E ce q u t T'.heap (locs ++ L) e1.symm (by rw [← e2]; exact X'.warmed.alike) hp hb k1 k2 k3 (by rw [e1]; exact hce) hcv hcl T' rfl X'
    exact ⟨t2, st.trans a1, b1⟩
/-- caught by the row x of this method's table; the rows ahead don't take it -/
theorem vx_catch {own name : String} {E : String} {ce : Cell} {q : Addr} (hown : s.vm.findClass own = some m.cls) (pre : List ExceptionTableEntry) (x : ExceptionTableEntry) (suf : List ExceptionTableEntry) (hsplit : c.exceptionTable.toList = pre ++ x :: suf)
    (hpass : ∀ z ∈ pre, covers z pc = false ∨ (z.catchType ≠ 0 ∧ ∃ nm : String, (Cond.classLink own z.catchType nm).before args s = true ∧ va_Nc E nm s)) (hx : covers x pc = true) (h0 : x.catchType ≠ 0)
    (hlink : (Cond.classLink own x.catchType name).before args s = true) (hcast : (Cond.castable E name).before args s = true) (hcell : H[q]? = some ce) (hv : ce.vm = .none) (hcl : s.vm.findClass E = some ce.cls)
    (kk : W p l e R s m args below meth c H locs cells slots Q (F0 m x.handlerPc ls [.ref q])) : vx_W p l e R s m args below meth c H locs cells slots Q (F0 m pc ls rest) q := by
  intro T hT X
  have hpl : e.platform.magicAccessors = ({} : Platform).magicAccessors := by rw [X.admits.platform]
  obtain ⟨c3, c4, hc3, hc4, hasg⟩ := Cond.castable_spec hcast
  cases Option.some.inj (hc3.symm.trans hcl)
  obtain ⟨c5, hc5, hcl5⟩ := Cond.classLink_spec hown hlink e.platform hpl
  cases Option.some.inj (hc4.symm.trans hc5)
  obtain ⟨vm', X', st⟩ := X.thenCaughtThrough q (g := F0 m pc ls rest) rfl (Steps.refl _) (by rw [hT]; exact hcell) (by rw [hv]; rfl) (by obtain ⟨k9, h9, -⟩ := Vm.findClass_spec hcl; exact ⟨k9, h9⟩) pre x suf hsplit
    (fun z hz => by
      rcases hpass z hz with h | ⟨hz0, nm, hl1, hn1⟩
      · exact Or.inl h
      · obtain ⟨c6, hc6, hcl6⟩ := Cond.classLink_spec hown hl1 e.platform hpl
        obtain ⟨a8, b8, h1, h2, h3⟩ := hn1
        cases Option.some.inj (h1.symm.trans hcl)
        cases Option.some.inj (h2.symm.trans hc6)
        exact Or.inr ⟨hz0, _, hcl6, h3⟩) hx (Or.inr ⟨h0, c4, hcl5, hasg⟩)
  obtain ⟨t, a1, b1⟩ := kk (T.setVm vm') hT X'
  exact ⟨t, st.trans a1, b1⟩
end Rows
section Ends
variable {p : Program} {l : Launch} {e : Env} {R : Room} {s : State} {m : MethodId} {args : Array Value} {below : List Frame} {meth : Method} {c : Code} {H : Heap} {locs : List Loc} {cells slots : Nat} {Q : State → Prop}
variable {mc ms : Nat} {free : Addr → Prop} {A0 A1 : Nat → Prop} {H0 : Heap} {a : Array Value} {ls : Array Slot} {st0 rest : List Value}
variable {Qc : Array Value → State → Outcome → State → Prop} {XC : String → State → State → Prop}
/-- what a body that may throw owes at its end -/
def vx_MQ (below : List Frame) (Qc : Array Value → State → Outcome → State → Prop) (XC : String → State → State → Prop) (a : Array Value) (s : State) (mc ms : Nat) (free : Addr → Prop) : State → Prop := fun t =>
  ∃ o, t.status = .running ∧ Ended t below o ∧ vx_Q Qc XC mc ms free a s o t
theorem vx_ret {g : JFrame} {mc ms : Nat} (k : W p l e R s m args below meth c H locs cells slots (MQ below Qc args s mc ms free) g) : W p l e R s m args below meth c H locs cells slots (vx_MQ below Qc XC args s mc ms free) g := by
  intro T hT X
  obtain ⟨t, a1, o, b1, b2, b3, b4⟩ := k T hT X
  exact ⟨t, a1, o, b1, b2, Or.inl ⟨b3, b4⟩⟩
/-- not caught here: it goes on to the caller -/
theorem vx_widen {g : JFrame} {q : Addr} {k n : Nat} (h1 : cells ≤ k) (h2 : slots ≤ n) (kk : vx_W p l e R s m args below meth c H locs k n Q g q) : vx_W p l e R s m args below meth c H locs cells slots Q g q := fun T hT X => kk T hT (stand_widen X h1 h2)
theorem vx_out {pc : Nat} {E : String} {ce : Cell} {q : Addr} {mc ms : Nat} (hout : ∀ x ∈ c.exceptionTable.toList, covers x pc = false) (hlocks : meth.locks = false) (hcell : H[q]? = some ce) (hv : ce.vm = .none) (hcl : s.vm.findClass E = some ce.cls)
    (hx : ∀ t : State, t.heap = H → s.vm.Alike t.vm → XC E s t) (hf : ∀ z ∈ locs, free z.base) (hc : cells ≤ mc) (hs : slots ≤ ms) :
    vx_W p l e R s m args below meth c H locs cells slots (vx_MQ below Qc XC args s mc ms free) (F0 m pc ls rest) q := by
  intro T hT X
  obtain ⟨st1, hrun, hend, hW, hsm⟩ := X.leaveThrown q (g := F0 m pc ls rest) rfl rfl rfl hout hlocks
  have hcell9 : (T.setFrames (.throwing q :: below)).heap[q]? = some ce := by
    show T.heap[q]? = some ce
    rw [hT]; exact hcell
  exact ⟨_, st1, .threw q, hrun, hend, Or.inr ⟨q, rfl, E, ce, locs, hx _ hT hW.alike, hcell9, hv, hcl, hW, hsm.mono hc hs, hf⟩⟩
theorem vx_frame {U : State} {k n : Nat} (h : s.sameButNew ({ U with vm := s.vm } : State) locs k n) : s.heap.size ≤ U.heap.size ∧ ∀ q : Nat, q < s.heap.size → (∀ z ∈ locs, z.base ≠ q) → U.heap[q]? = s.heap[q]? := by
  obtain ⟨-, h2, -, -, -, h6⟩ := h
  refine ⟨h2, fun q hq hz => ?_⟩
  obtain ⟨c9, e1, e2, e3, e4⟩ := h6 q _ (Array.getElem?_eq_getElem hq)
  have hs : c9.slots = (s.heap[q]).slots := Array.ext_getElem? fun i => e4 i fun hm => hz _ hm rfl
  have h9 : c9 = s.heap[q] := by
    rw [hs] at e2
    exact e2
  have e5 : U.heap[q]? = some c9 := e1
  rw [e5, h9, Array.getElem?_eq_getElem hq]
/-- the words of a throw but the four that speak of the heap -/
def vx_no (w : Cond) : Bool := decide (w ≠ .isRef (.static Bundle.tN "UNASSIGNED_STACK" Bundle.steD)) && decide (w ≠ .isRef (.static Bundle.tN "SUPPRESSED_SENTINEL" Bundle.listD)) && decide (w ≠ .laysStatic Bundle.tN "UNASSIGNED_STACK" Bundle.steD) && decide (w ≠ .laysStatic Bundle.tN "SUPPRESSED_SENTINEL" Bundle.listD)
def vx_at0 (own : String) (ic : Nat) (X : String) (names : List String) : List Cond := (Bundle.ownAtoms0 own ic X names).filter vx_no
def vx_atS (own : String) (ic : Nat) (X : String) (names : List String) : List Cond := (Bundle.ownAtoms own ic X names).filter vx_no
/-- a word that the tables alone decide, or a good one -/
def vx_ot (w : Cond) : Bool := w.onTables || goodWord w
theorem vx_ot_at {args a' : Array Value} {s U : State} {w : Cond} (hW : s.WarmedH U.vm) (hvm : s.vm = U.vm) (hg : vx_ot w = true) (h : w.before args s = true) : w.before a' U = true := by
  simp only [vx_ot, Bool.or_eq_true] at hg
  rcases hg with hg | hg
  · exact va_tabs hg hvm h
  · exact word_at hW (good_of_word hg) h
/-- a list's words: the good ones out of the method's own list, the others by premises of their own -/
theorem vx_hat {args : Array Value} {s : State} {L B : List Cond} (h1 : ∀ w ∈ L.filter goodWord, w.before args s = true) (h2 : ∀ w ∈ L.filter (fun w => !goodWord w), w ∈ B) (h3 : ∀ w ∈ B, w.before args s = true) : ∀ w ∈ L, w.before args s = true := by
  intro w hw
  by_cases g : goodWord w = true
  · exact h1 w (List.mem_filter.mpr ⟨hw, g⟩)
  · refine h3 w (h2 w (List.mem_filter.mpr ⟨hw, ?_⟩))
    show (!goodWord w) = true
    cases hgw : goodWord w
    · rfl
    · exact absurd hgw g
theorem vx_c {args : Array Value} {s : State} {w : Cond} {B : List Cond} (h : w.before args s = true) (t : ∀ w ∈ B, w.before args s = true) : ∀ w' ∈ w :: B, w'.before args s = true := fun w' h' => (List.mem_cons.mp h').elim (fun e => by rw [e]; exact h) (t w')
theorem vx_n {args : Array Value} {s : State} : ∀ w ∈ ([] : List Cond), w.before args s = true := fun _ h => nomatch h
theorem vx_own {args : Array Value} {s : State} {L : List Cond} (h1 : ∀ w ∈ L.filter vx_no, w.before args s = true)
    (hU : (Cond.isRef (.static Bundle.tN "UNASSIGNED_STACK" Bundle.steD)).before args s = true) (hN : (Cond.isRef (.static Bundle.tN "SUPPRESSED_SENTINEL" Bundle.listD)).before args s = true)
    (lU : (Cond.laysStatic Bundle.tN "UNASSIGNED_STACK" Bundle.steD).before args s = true) (lN : (Cond.laysStatic Bundle.tN "SUPPRESSED_SENTINEL" Bundle.listD).before args s = true) : ∀ w ∈ L, w.before args s = true := by
  intro w hw
  by_cases e1 : w = .isRef (.static Bundle.tN "UNASSIGNED_STACK" Bundle.steD)
  · rw [e1]; exact hU
  · by_cases e2 : w = .isRef (.static Bundle.tN "SUPPRESSED_SENTINEL" Bundle.listD)
    · rw [e2]; exact hN
    · by_cases e3 : w = .laysStatic Bundle.tN "UNASSIGNED_STACK" Bundle.steD
      · rw [e3]; exact lU
      · by_cases e4 : w = .laysStatic Bundle.tN "SUPPRESSED_SENTINEL" Bundle.listD
        · rw [e4]; exact lN
        · exact h1 w (List.mem_filter.mpr ⟨hw, by unfold vx_no; rw [decide_eq_true e1, decide_eq_true e2, decide_eq_true e3, decide_eq_true e4]; rfl⟩)
/-- where a static field lies, its class's statics cell in H -/
def vx_L (C n d : String) (A : Nat → Prop) (U : State) (H : Heap) : Prop := ∃ (c : ClassId) (k : Class) (i : Nat) (f : Field) (a : Nat) (cell : Cell), U.vm.findClass C = some c ∧ U.fieldFound? C n d = some (c, k, i, f) ∧ f.isStatic = true ∧ k.statics = some a ∧ H[a]? = some cell ∧ cell.vm.isStatics = true ∧ cell.cls = c ∧ f.slot < cell.slots.size ∧ k.staticTypes[f.slot]? = some f.type ∧ ¬ A a
theorem vx_L.moved {C n d : String} {A : Nat → Prop} {u U : State} {H : Heap} (hvm : u.vm.Alike U.vm) (h : vx_L C n d A u H) : vx_L C n d A U H := by
  obtain ⟨c, k, i, f, a, cell, h1, h2, h3, h4, h5, h6, h7, h8, h9, h10⟩ := h
  obtain ⟨k', hi', he⟩ := State.fieldFound?_setVm hvm h2
  exact ⟨c, k', i, f, a, cell, by rw [hvm.findClass]; exact h1, hi', h3, by rw [he]; exact h4, h5, h6, h7, h8, by rw [he]; exact h9, h10⟩
theorem vx_L.kept {C n d : String} {A : Nat → Prop} {U : State} {H H1 : Heap} (h : vx_L C n d A U H) (hq : ∀ a : Nat, a < H.size → ¬ A a → H1[a]? = H[a]?) : vx_L C n d A U H1 := by
  obtain ⟨c, k, i, f, a, cell, h1, h2, h3, h4, h5, h6, h7, h8, h9, h10⟩ := h
  exact ⟨c, k, i, f, a, cell, h1, h2, h3, h4, by rw [hq a (Array.getElem?_eq_some_iff.mp h5).1 h10]; exact h5, h6, h7, h8, h9, h10⟩
theorem vx_L.narrow {C n d : String} {A B : Nat → Prop} {U : State} {H : Heap} (h : vx_L C n d A U H) (hAB : ∀ q, B q → A q) : vx_L C n d B U H := by
  obtain ⟨c, k, i, f, a, cell, h1, h2, h3, h4, h5, h6, h7, h8, h9, h10⟩ := h
  exact ⟨c, k, i, f, a, cell, h1, h2, h3, h4, h5, h6, h7, h8, h9, fun z => h10 (hAB _ z)⟩
theorem vx_L.word {C n d : String} {A : Nat → Prop} {s : State} {args : Array Value} (h : vx_L C n d A s s.heap) : (Cond.laysStatic C n d).before args s = true := by
  obtain ⟨c, k, i, f, a, cell, h1, h2, h3, h4, h5, h6, h7, h8, h9, -⟩ := h
  show (Cond.laysStatic C n d).holds args s none s [] = true
  exact Cond.laysStatic_of h1 h2 h3 h4 h5 h6 h7 h8 h9
/-- .. and what it holds: null or some reference -/
def vx_Zq (C n d : String) (A : Nat → Prop) (U : State) (H : Heap) : Prop := va_Zq C n d A U H ∧ vx_L C n d A U H
theorem vx_Zq.moved {C n d : String} {A : Nat → Prop} {u U : State} {H : Heap} (hvm : u.vm.Alike U.vm) (h : vx_Zq C n d A u H) : vx_Zq C n d A U H := ⟨va_Zq.moved hvm h.1, vx_L.moved hvm h.2⟩
theorem vx_Zq.kept {C n d : String} {A : Nat → Prop} {U : State} {H H1 : Heap} (h : vx_Zq C n d A U H) (hq : ∀ a : Nat, a < H.size → ¬ A a → H1[a]? = H[a]?) : vx_Zq C n d A U H1 := ⟨va_Zq.kept h.1 hq, vx_L.kept h.2 hq⟩
theorem vx_Zq.narrow {C n d : String} {A B : Nat → Prop} {U : State} {H : Heap} (h : vx_Zq C n d A U H) (hAB : ∀ q, B q → A q) : vx_Zq C n d B U H := ⟨va_Zq.narrow h.1 hAB, vx_L.narrow h.2 hAB⟩
theorem vx_Zqof {args : Array Value} {s : State} {C n d : String} {A : Nat → Prop} (hl : (Cond.laysStatic C n d).before args s = true) (hini : (Cond.initialized C).before args s = true) (h : (Cond.isRef (.static C n d)).before args s = true) (hA : ∀ a : Nat, a < s.heap.size → ¬ A a) : vx_Zq C n d A s s.heap := by
  refine ⟨va_Zqof hl hini h hA, ?_⟩
  obtain ⟨c, k, i, f, a, cell, h1, h2, h3, h4, h5, h6, h7, h8, h9⟩ := Cond.laysStatic_spec hl
  exact ⟨c, k, i, f, a, cell, h1, h2, h3, h4, h5, h6, h7, h8, h9, hA a (Array.getElem?_eq_some_iff.mp h5).1⟩
theorem vx_isRef {C n d : String} {v : Value} {A : Nat → Prop} {s : State} {args : Array Value} (h : va_Z C n d v A s s.heap) (hv : v.isRef = true) : (Cond.isRef (.static C n d)).before args s = true := by
  obtain ⟨cf, kf, fi, f, a, cell, h1, h2, h3, h4, h5, h6, h7, -⟩ := h
  have he : (Term.static C n d).eval args s none [] s = some v := by
    simp [Term.eval, State.fieldNamed?, h1, h2, h4, h5, h6, h7]
  simp only [Cond.before, Cond.holds, Cond.value, he]
  cases v <;> simp_all [Value.isRef]
theorem vx_isRefq {C n d : String} {A : Nat → Prop} {s : State} {args : Array Value} (h : va_Zq C n d A s s.heap) : (Cond.isRef (.static C n d)).before args s = true := by
  rcases h with h | ⟨t, h⟩
  · exact vx_isRef h rfl
  · exact vx_isRef h rfl
/-- the same frame, seen from here: as if the method were called anew in this heap -/
theorem vx_rebase {T : State} (X : Stand p l e R s m args below meth c T locs cells slots) {R' : Room} (hf : R'.frames ≤ R.frames) (hl : R'.locals ≤ R.locals) (hc : cells + R'.cells ≤ R.cells) (hs : slots + R'.slots ≤ R.slots) :
    Stand p l e R' ((T.setVm s.vm).setFrames (.invoking m args :: below)) m args below meth c T [] 0 0 := by
  have htop : (T.setVm s.vm).topJava?.isSome := X.here.top
  have hF : ((T.setVm s.vm).setFrames (.invoking m args :: below)).frames = .invoking m args :: below := State.frames_setFrames _ (State.cur_lt_of_top htop)
  obtain ⟨g₀, hg0⟩ := Option.isSome_iff_exists.mp htop
  obtain ⟨r, hr⟩ := State.topJava?_eq_some.mp hg0
  have hl9 : e.platform.stackLimits (T.setVm s.vm).me = e.platform.stackLimits s.me := X.limits
  have hb9 : (T.setVm s.vm).me.stackBytes = s.me.stackBytes := X.bytes
  refine ⟨X.admits, X.cas, X.clock, hF, ?_, X.hears, X.method, X.code, X.here, X.tail, X.warmed, ?_, ?_, ?_⟩
  · have h := X.room
    have hU : ((T.setVm s.vm).setFrames (.invoking m args :: below)).localsInUse = s.localsInUse := by
      rw [State.localsInUse_invoking hF (meth := meth) (c := c) X.method X.code, State.localsInUse_invoking X.frames X.method X.code]
    simp only [State.hasRoom, Bool.and_eq_true, decide_eq_true_eq] at h ⊢
    obtain ⟨⟨⟨⟨h1, h2, h3, h4, h5, h6⟩, h7⟩, h8⟩, h9⟩ := h
    rw [X.frames, List.length_cons] at h2 h3
    have q1 := X.heapSize
    have q2 := X.used
    simp only [hF, hU, List.length_cons, State.stackLimits_setFrames, State.stackBytes_setFrames, hl9, hb9]
    refine ⟨⟨⟨⟨by omega, by omega, by omega, by omega, by omega, h6⟩, ?_⟩, ?_⟩, X.book⟩
    · show T.heap.size + R'.cells ≤ e.platform.maxCells
      omega
    · show T.slotsUsed + R'.slots ≤ e.platform.maxSlots
      omega
  · rw [State.stackLimits_setFrames]; rfl
  · rw [State.stackBytes_setFrames]; rfl
  · refine ⟨?_, Nat.le_refl _, Nat.le_refl _, ?_, ?_, fun a c9 h9 => ⟨c9, h9, rfl, rfl, fun _ _ => rfl⟩⟩
    · obtain ⟨t, ht, -⟩ := State.frames_cons hr
      show T.setVm s.vm = { ((T.setVm s.vm).setFrames (.invoking m args :: below)).setFrames (T.setVm s.vm).frames with heap := T.heap, slotsUsed := T.slotsUsed }
      rw [State.setFrames_setFrames, State.setFrames_self ht]
      rfl
    · show T.slotsUsed = T.slotsUsed + ((T.heap.toList.drop T.heap.size).map (·.slots.size)).sum
      rw [List.drop_eq_nil_of_le (Nat.le_of_eq Array.length_toList)]
      rfl
    · show ((T.heap.toList.drop T.heap.size).map (·.slots.size)).sum ≤ 0
      rw [List.drop_eq_nil_of_le (Nat.le_of_eq Array.length_toList)]
      exact Nat.le_refl _
/-- 'throw new E()': new; dup; invokespecial; athrow -/
theorem vx_throw0 {cc : ByteArray} {pc : Nat} (hexec : p.tables.exec = Jvm.exec) (hb : c.code = cc) (hl : l.stackTraces = false) {own cls : String} {names : List String} {ik ic mc ms : Nat} {A : Nat → Prop}
    (hown : s.vm.findClass own = some m.cls) (hcls : Bundle.fit cls = true) (hnames : ∀ n ∈ names, Bundle.fit n = true)
    (hk : (Cond.classLink own ik cls).before args s = true) (hini : (Cond.initialized cls).before args s = true) (hat : ∀ w ∈ vx_at0 own ic cls names, w.before args s = true)
    (hgood : ∀ w ∈ Cond.classLink own ik cls :: Cond.initialized cls :: vx_at0 own ic cls names, vx_ot w = true)
    (hU : vx_Zq Bundle.tN "UNASSIGNED_STACK" Bundle.steD A s s.heap) (hN : vx_Zq Bundle.tN "SUPPRESSED_SENTINEL" Bundle.listD A s s.heap) (hS : va_S A s.heap H locs) (hsize : ls.size = c.maxLocals)
    (d0 : decode cc pc = .ok (.new ik, 3)) (d3 : decode cc (pc + 3) = .ok (.dup, 1)) (d4 : decode cc (pc + 4) = .ok (.invokespecial ic, 3)) (d7 : decode cc (pc + 7) = .ok (.athrow, 1))
    (hout : ∀ x ∈ c.exceptionTable.toList, covers x (pc + 7) = false)
    (hRframes : names.length + 3 < R.frames) (hRlocals : (rest.map fun v => v.category).sum + (13 * (names.length + 1) + 42) ≤ R.locals) (hRcells : cells + 1 ≤ R.cells) (hRslots : slots + 6 ≤ R.slots) (hlocks : meth.locks = false)
    (hx : ∀ t : State, s.vm.Alike t.vm → H.size ≤ t.heap.size → (∀ q : Nat, q < H.size → t.heap[q]? = H[q]?) → XC cls s t)
    (hf : ∀ z ∈ locs, free z.base) (hc : cells + 1 ≤ mc) (hs : slots + 6 ≤ ms) :
    W p l e R s m args below meth c H locs cells slots (vx_MQ below Qc XC args s mc ms free) (F0 m pc ls rest) := by
  intro T hT X
  have htr : e.platform.stackTraces = false := (show e.platform.stackTraces = l.stackTraces by rw [X.admits.platform]).trans hl
  have Y := vx_rebase X (R' := { frames := R.frames, locals := R.locals, cells := 1, slots := 6 }) (Nat.le_refl _) (Nat.le_refl _) hRcells hRslots
  obtain ⟨s', hA⟩ : ∃ z, z = (T.setVm s.vm).setFrames (.invoking m args :: below) := ⟨_, rfl⟩
  rw [← hA] at Y
  have hvm : s'.vm = s.vm := by rw [hA]; rfl
  have hhp : s'.heap = H := by rw [hA]; exact hT
  have hW0 : s.WarmedH s'.vm := by rw [hvm]; exact State.WarmedH.refl s
  have hat' : ∀ w ∈ vx_at0 own ic cls names, w.before args s' = true := fun w hw => vx_ot_at hW0 hvm.symm (hgood w (List.mem_cons_of_mem _ (List.mem_cons_of_mem _ hw))) (hat w hw)
  have hk' : (Cond.classLink own ik cls).before args s' = true := vx_ot_at hW0 hvm.symm (hgood _ List.mem_cons_self) hk
  have hini' : (Cond.initialized cls).before args s' = true := vx_ot_at hW0 hvm.symm (hgood _ (List.mem_cons_of_mem _ List.mem_cons_self)) hini
  have hU' : vx_Zq Bundle.tN "UNASSIGNED_STACK" Bundle.steD A s' s'.heap := by rw [hhp]; exact vx_Zq.moved hW0.alike (hU.kept hS.2.1)
  have hN' : vx_Zq Bundle.tN "SUPPRESSED_SENTINEL" Bundle.listD A s' s'.heap := by rw [hhp]; exact vx_Zq.moved hW0.alike (hN.kept hS.2.1)
  have h : ∀ w ∈ Bundle.ownAtoms0 own ic cls names, w.before args s' = true := vx_own hat' (vx_isRefq hU'.1) (vx_isRefq hN'.1) hU'.2.word hN'.2.word
  have hown' : s'.vm.findClass own = some m.cls := by rw [hvm]; exact hown
  have hins : (Cond.instantiable cls 6).before args s' = true := h _ (by simp [Bundle.ownAtoms0])
  obtain ⟨vm₁, cX, kX, hfX, hkX, -, -, X₁, st1⟩ := Y.newCold hexec (own := own) (C := cls) (index := ik) (n := 6) hown' hk' hins hini'
    (g := F0 m pc ls rest) rfl (by rw [hb]; exact d0) (Nat.le_refl _) (Nat.le_refl _)
  generalize hT1 : (T.setVm vm₁).pushCell { cls := cX, slots := kX.instanceTypes.map defaultValue, vm := .none } = T1 at X₁ st1
  have hcat : (Value.ref T.heap.size).category = 1 := rfl
  have hcellA : T1.heap[T.heap.size]? = some (freshCell cX kX) := by rw [← hT1]; exact State.heap_pushCell_size _ _
  have d3' : decode c.code (pc + 3) = .ok (.dup, 1) := by rw [hb]; exact d3
  obtain ⟨U, hsteps, hrun, hend, hW, hsame, ce, hce, hO⟩ := X₁.ctorThrow0 hexec htr (own := own) (cls := cls) (names := names) (ic := ic) hown' hcls hnames h (fun x hx => nomatch hx) hfX hkX hcellA (by rw [hhp, hT]; exact Nat.le_refl _)
    (g := { method := m, pc := pc + 4, locals := ls, stack := .ref T.heap.size :: .ref T.heap.size :: rest, locked := none }) rfl hsize rfl rfl (rest := rest) rfl
    (by rw [hb]; exact d4) (by rw [hb]; exact d7) hout hRframes (by simp only [List.map_cons, List.sum_cons, hcat]; omega) hlocks
  obtain ⟨f1, f2⟩ := vx_frame hsame
  rw [hhp] at f1 f2
  have hWs : s.WarmedH U.vm := State.WarmedH.trans hW0 hW
  have hcl : s.vm.findClass cls = some ce.cls := by
    have h9 := hO.cls
    rw [hvm] at h9
    exact h9
  have hall : s.sameButNew ({ U with vm := s.vm } : State) locs mc ms := by
    subst hA
    obtain ⟨e1, e2⟩ := hsame
    rw [State.setFrames_setFrames] at e1
    have h2 : (T.setVm s.vm).sameButNew ({ U with vm := s.vm } : State) [] (0 + 1) (0 + 6) := ⟨e1, e2⟩
    have h3 := X.same.trans h2
    rw [List.append_nil] at h3
    exact h3.mono hc hs
  refine ⟨U, ?_, .threw T.heap.size, hrun, hend, Or.inr ⟨T.heap.size, rfl, cls, ce, locs, hx U hWs.alike f1 (fun q hq => f2 q hq (fun z hz => nomatch hz)), hce, hO.vm, hcl, hWs, hall, hf⟩⟩
  refine st1 _ ?_
  show Steps p.tables e below (T1.setTop { method := m, pc := pc + 3, locals := ls, stack := .ref T.heap.size :: rest, locked := none }) _
  jvm_step X₁.here [X₁.here.top, hexec, d3', Value.category]
  exact hsteps
/-- 'throw new E("text")': new; dup; ldc; invokespecial; athrow -/
theorem vx_throwS {cc : ByteArray} {pc : Nat} (hexec : p.tables.exec = Jvm.exec) (hb : c.code = cc) (hl : l.stackTraces = false) {own cls text : String} {names : List String} {ik is ic mc ms sa : Nat} {A : Nat → Prop}
    (hown : s.vm.findClass own = some m.cls) (hcls : Bundle.fit cls = true) (hnames : ∀ n ∈ names, Bundle.fit n = true)
    (hk : (Cond.classLink own ik cls).before args s = true) (hini : (Cond.initialized cls).before args s = true) (hstr : vk_R own is text sa s) (hat : ∀ w ∈ vx_atS own ic cls names, w.before args s = true)
    (hgood : ∀ w ∈ Cond.classLink own ik cls :: Cond.initialized cls :: vx_atS own ic cls names, vx_ot w = true)
    (hU : vx_Zq Bundle.tN "UNASSIGNED_STACK" Bundle.steD A s s.heap) (hN : vx_Zq Bundle.tN "SUPPRESSED_SENTINEL" Bundle.listD A s s.heap) (hS : va_S A s.heap H locs) (hsize : ls.size = c.maxLocals)
    (d0 : decode cc pc = .ok (.new ik, 3)) (d3 : decode cc (pc + 3) = .ok (.dup, 1)) (d4 : decode cc (pc + 4) = .ok (.ldc is, 2)) (d6 : decode cc (pc + 6) = .ok (.invokespecial ic, 3)) (d9 : decode cc (pc + 9) = .ok (.athrow, 1))
    (hout : ∀ x ∈ c.exceptionTable.toList, covers x (pc + 9) = false)
    (hRframes : names.length + 3 < R.frames) (hRlocals : (rest.map fun v => v.category).sum + (13 * (names.length + 1) + 43) ≤ R.locals) (hRcells : cells + 1 ≤ R.cells) (hRslots : slots + 6 ≤ R.slots) (hlocks : meth.locks = false)
    (hx : ∀ t : State, s.vm.Alike t.vm → H.size ≤ t.heap.size → (∀ q : Nat, q < H.size → t.heap[q]? = H[q]?) → XC cls s t)
    (hf : ∀ z ∈ locs, free z.base) (hc : cells + 1 ≤ mc) (hs : slots + 6 ≤ ms) :
    W p l e R s m args below meth c H locs cells slots (vx_MQ below Qc XC args s mc ms free) (F0 m pc ls rest) := by
  intro T hT X
  have htr : e.platform.stackTraces = false := (show e.platform.stackTraces = l.stackTraces by rw [X.admits.platform]).trans hl
  have Y := vx_rebase X (R' := { frames := R.frames, locals := R.locals, cells := 1, slots := 6 }) (Nat.le_refl _) (Nat.le_refl _) hRcells hRslots
  obtain ⟨s', hA⟩ : ∃ z, z = (T.setVm s.vm).setFrames (.invoking m args :: below) := ⟨_, rfl⟩
  rw [← hA] at Y
  have hvm : s'.vm = s.vm := by rw [hA]; rfl
  have hhp : s'.heap = H := by rw [hA]; exact hT
  have hW0 : s.WarmedH s'.vm := by rw [hvm]; exact State.WarmedH.refl s
  have hat' : ∀ w ∈ vx_atS own ic cls names, w.before args s' = true := fun w hw => vx_ot_at hW0 hvm.symm (hgood w (List.mem_cons_of_mem _ (List.mem_cons_of_mem _ hw))) (hat w hw)
  have hk' : (Cond.classLink own ik cls).before args s' = true := vx_ot_at hW0 hvm.symm (hgood _ List.mem_cons_self) hk
  have hini' : (Cond.initialized cls).before args s' = true := vx_ot_at hW0 hvm.symm (hgood _ (List.mem_cons_of_mem _ List.mem_cons_self)) hini
  have hU' : vx_Zq Bundle.tN "UNASSIGNED_STACK" Bundle.steD A s' s'.heap := by rw [hhp]; exact vx_Zq.moved hW0.alike (hU.kept hS.2.1)
  have hN' : vx_Zq Bundle.tN "SUPPRESSED_SENTINEL" Bundle.listD A s' s'.heap := by rw [hhp]; exact vx_Zq.moved hW0.alike (hN.kept hS.2.1)
  have h : ∀ w ∈ Bundle.ownAtoms own ic cls names, w.before args s' = true := vx_own hat' (vx_isRefq hU'.1) (vx_isRefq hN'.1) hU'.2.word hN'.2.word
  have hown' : s'.vm.findClass own = some m.cls := by rw [hvm]; exact hown
  have hins : (Cond.instantiable cls 6).before args s' = true := h _ (by simp [Bundle.ownAtoms])
  obtain ⟨vm₁, cX, kX, hfX, hkX, -, -, X₁, st1⟩ := Y.newCold hexec (own := own) (C := cls) (index := ik) (n := 6) hown' hk' hins hini'
    (g := F0 m pc ls rest) rfl (by rw [hb]; exact d0) (Nat.le_refl _) (Nat.le_refl _)
  generalize hT1 : (T.setVm vm₁).pushCell { cls := cX, slots := kX.instanceTypes.map defaultValue, vm := .none } = T1 at X₁ st1
  have hcat : (Value.ref T.heap.size).category = 1 := rfl
  have hcellA : T1.heap[T.heap.size]? = some (freshCell cX kX) := by rw [← hT1]; exact State.heap_pushCell_size _ _
  have d3' : decode c.code (pc + 3) = .ok (.dup, 1) := by rw [hb]; exact d3
  have d4' : decode c.code (pc + 4) = .ok (.ldc is, 2) := by rw [hb]; exact d4
  have hstr' : vk_R own is text sa s' := vk_R.warm hW0 hstr
  obtain ⟨U, hsteps, hrun, hend, hW, hsame, ce, hce, hO⟩ := X₁.ctorThrowS hexec htr (own := own) (cls := cls) (names := names) (ic := ic) hown' hcls hnames h (fun x hx => nomatch hx) hfX hkX hcellA (by rw [hhp, hT]; exact Nat.le_refl _) (msg := .ref sa) rfl
    (g := { method := m, pc := pc + 6, locals := ls, stack := .ref sa :: .ref T.heap.size :: .ref T.heap.size :: rest, locked := none }) rfl hsize rfl rfl (rest := rest) rfl
    (by rw [hb]; exact d6) (by rw [hb]; exact d9) hout hRframes (by simp only [List.map_cons, List.sum_cons, hcat]; omega) hlocks
  obtain ⟨f1, f2⟩ := vx_frame hsame
  rw [hhp] at f1 f2
  have hWs : s.WarmedH U.vm := State.WarmedH.trans hW0 hW
  have hcl : s.vm.findClass cls = some ce.cls := by
    have h9 := hO.cls
    rw [hvm] at h9
    exact h9
  have hall : s.sameButNew ({ U with vm := s.vm } : State) locs mc ms := by
    subst hA
    obtain ⟨e1, e2⟩ := hsame
    rw [State.setFrames_setFrames] at e1
    have h2 : (T.setVm s.vm).sameButNew ({ U with vm := s.vm } : State) [] (0 + 1) (0 + 6) := ⟨e1, e2⟩
    have h3 := X.same.trans h2
    rw [List.append_nil] at h3
    exact h3.mono hc hs
  refine ⟨U, ?_, .threw T.heap.size, hrun, hend, Or.inr ⟨T.heap.size, rfl, cls, ce, locs, hx U hWs.alike f1 (fun q hq => f2 q hq (fun z hz => nomatch hz)), hce, hO.vm, hcl, hWs, hall, hf⟩⟩
  refine st1 _ ?_
  show Steps p.tables e below (T1.setTop { method := m, pc := pc + 3, locals := ls, stack := .ref T.heap.size :: rest, locked := none }) _
  jvm_step X₁.here [X₁.here.top, hexec, d3', Value.category]
  exact X₁.ldcString hexec (own := own) (text := text) (index := is) (a := sa) hown' hstr'.1 hstr'.2
    (g := { method := m, pc := pc + 4, locals := ls, stack := .ref T.heap.size :: .ref T.heap.size :: rest, locked := none }) rfl d4' _ hsteps
/-- 'throw new E("text")', the text by a wide index -/
theorem vx_throwSW {cc : ByteArray} {pc : Nat} (hexec : p.tables.exec = Jvm.exec) (hb : c.code = cc) (hl : l.stackTraces = false) {own cls text : String} {names : List String} {ik is ic mc ms sa : Nat} {A : Nat → Prop}
    (hown : s.vm.findClass own = some m.cls) (hcls : Bundle.fit cls = true) (hnames : ∀ n ∈ names, Bundle.fit n = true)
    (hk : (Cond.classLink own ik cls).before args s = true) (hini : (Cond.initialized cls).before args s = true) (hstr : vk_R own is text sa s) (hat : ∀ w ∈ vx_atS own ic cls names, w.before args s = true)
    (hgood : ∀ w ∈ Cond.classLink own ik cls :: Cond.initialized cls :: vx_atS own ic cls names, vx_ot w = true)
    (hU : vx_Zq Bundle.tN "UNASSIGNED_STACK" Bundle.steD A s s.heap) (hN : vx_Zq Bundle.tN "SUPPRESSED_SENTINEL" Bundle.listD A s s.heap) (hS : va_S A s.heap H locs) (hsize : ls.size = c.maxLocals)
    (d0 : decode cc pc = .ok (.new ik, 3)) (d3 : decode cc (pc + 3) = .ok (.dup, 1)) (d4 : decode cc (pc + 4) = .ok (.ldc_w is, 3)) (d7 : decode cc (pc + 7) = .ok (.invokespecial ic, 3)) (d10 : decode cc (pc + 10) = .ok (.athrow, 1))
    (hout : ∀ x ∈ c.exceptionTable.toList, covers x (pc + 10) = false)
    (hRframes : names.length + 3 < R.frames) (hRlocals : (rest.map fun v => v.category).sum + (13 * (names.length + 1) + 43) ≤ R.locals) (hRcells : cells + 1 ≤ R.cells) (hRslots : slots + 6 ≤ R.slots) (hlocks : meth.locks = false)
    (hx : ∀ t : State, s.vm.Alike t.vm → H.size ≤ t.heap.size → (∀ q : Nat, q < H.size → t.heap[q]? = H[q]?) → XC cls s t)
    (hf : ∀ z ∈ locs, free z.base) (hc : cells + 1 ≤ mc) (hs : slots + 6 ≤ ms) :
    W p l e R s m args below meth c H locs cells slots (vx_MQ below Qc XC args s mc ms free) (F0 m pc ls rest) := by
  intro T hT X
  have htr : e.platform.stackTraces = false := (show e.platform.stackTraces = l.stackTraces by rw [X.admits.platform]).trans hl
  have Y := vx_rebase X (R' := { frames := R.frames, locals := R.locals, cells := 1, slots := 6 }) (Nat.le_refl _) (Nat.le_refl _) hRcells hRslots
  obtain ⟨s', hA⟩ : ∃ z, z = (T.setVm s.vm).setFrames (.invoking m args :: below) := ⟨_, rfl⟩
  rw [← hA] at Y
  have hvm : s'.vm = s.vm := by rw [hA]; rfl
  have hhp : s'.heap = H := by rw [hA]; exact hT
  have hW0 : s.WarmedH s'.vm := by rw [hvm]; exact State.WarmedH.refl s
  have hat' : ∀ w ∈ vx_atS own ic cls names, w.before args s' = true := fun w hw => vx_ot_at hW0 hvm.symm (hgood w (List.mem_cons_of_mem _ (List.mem_cons_of_mem _ hw))) (hat w hw)
  have hk' : (Cond.classLink own ik cls).before args s' = true := vx_ot_at hW0 hvm.symm (hgood _ List.mem_cons_self) hk
  have hini' : (Cond.initialized cls).before args s' = true := vx_ot_at hW0 hvm.symm (hgood _ (List.mem_cons_of_mem _ List.mem_cons_self)) hini
  have hU' : vx_Zq Bundle.tN "UNASSIGNED_STACK" Bundle.steD A s' s'.heap := by rw [hhp]; exact vx_Zq.moved hW0.alike (hU.kept hS.2.1)
  have hN' : vx_Zq Bundle.tN "SUPPRESSED_SENTINEL" Bundle.listD A s' s'.heap := by rw [hhp]; exact vx_Zq.moved hW0.alike (hN.kept hS.2.1)
  have h : ∀ w ∈ Bundle.ownAtoms own ic cls names, w.before args s' = true := vx_own hat' (vx_isRefq hU'.1) (vx_isRefq hN'.1) hU'.2.word hN'.2.word
  have hown' : s'.vm.findClass own = some m.cls := by rw [hvm]; exact hown
  have hins : (Cond.instantiable cls 6).before args s' = true := h _ (by simp [Bundle.ownAtoms])
  obtain ⟨vm₁, cX, kX, hfX, hkX, -, -, X₁, st1⟩ := Y.newCold hexec (own := own) (C := cls) (index := ik) (n := 6) hown' hk' hins hini'
    (g := F0 m pc ls rest) rfl (by rw [hb]; exact d0) (Nat.le_refl _) (Nat.le_refl _)
  generalize hT1 : (T.setVm vm₁).pushCell { cls := cX, slots := kX.instanceTypes.map defaultValue, vm := .none } = T1 at X₁ st1
  have hcat : (Value.ref T.heap.size).category = 1 := rfl
  have hcellA : T1.heap[T.heap.size]? = some (freshCell cX kX) := by rw [← hT1]; exact State.heap_pushCell_size _ _
  have d3' : decode c.code (pc + 3) = .ok (.dup, 1) := by rw [hb]; exact d3
  have d4' : decode c.code (pc + 4) = .ok (.ldc_w is, 3) := by rw [hb]; exact d4
  have hstr' : vk_R own is text sa s' := vk_R.warm hW0 hstr
  obtain ⟨U, hsteps, hrun, hend, hW, hsame, ce, hce, hO⟩ := X₁.ctorThrowS hexec htr (own := own) (cls := cls) (names := names) (ic := ic) hown' hcls hnames h (fun x hx => nomatch hx) hfX hkX hcellA (by rw [hhp, hT]; exact Nat.le_refl _) (msg := .ref sa) rfl
    (g := { method := m, pc := pc + 7, locals := ls, stack := .ref sa :: .ref T.heap.size :: .ref T.heap.size :: rest, locked := none }) rfl hsize rfl rfl (rest := rest) rfl
    (by rw [hb]; exact d7) (by rw [hb]; exact d10) hout hRframes (by simp only [List.map_cons, List.sum_cons, hcat]; omega) hlocks
  obtain ⟨f1, f2⟩ := vx_frame hsame
  rw [hhp] at f1 f2
  have hWs : s.WarmedH U.vm := State.WarmedH.trans hW0 hW
  have hcl : s.vm.findClass cls = some ce.cls := by
    have h9 := hO.cls
    rw [hvm] at h9
    exact h9
  have hall : s.sameButNew ({ U with vm := s.vm } : State) locs mc ms := by
    subst hA
    obtain ⟨e1, e2⟩ := hsame
    rw [State.setFrames_setFrames] at e1
    have h2 : (T.setVm s.vm).sameButNew ({ U with vm := s.vm } : State) [] (0 + 1) (0 + 6) := ⟨e1, e2⟩
    have h3 := X.same.trans h2
    rw [List.append_nil] at h3
    exact h3.mono hc hs
  refine ⟨U, ?_, .threw T.heap.size, hrun, hend, Or.inr ⟨T.heap.size, rfl, cls, ce, locs, hx U hWs.alike f1 (fun q hq => f2 q hq (fun z hz => nomatch hz)), hce, hO.vm, hcl, hWs, hall, hf⟩⟩
  refine st1 _ ?_
  show Steps p.tables e below (T1.setTop { method := m, pc := pc + 3, locals := ls, stack := .ref T.heap.size :: rest, locked := none }) _
  jvm_step X₁.here [X₁.here.top, hexec, d3', Value.category]
  exact X₁.ldcStringW hexec (own := own) (text := text) (index := is) (a := sa) hown' hstr'.1 hstr'.2
    (g := { method := m, pc := pc + 4, locals := ls, stack := .ref T.heap.size :: .ref T.heap.size :: rest, locked := none }) rfl d4' _ hsteps
end Ends
section Bodies
variable {l : Launch}
theorem vx_ofW {y : MethodName} {ws ws' : List Cond} {rm : Room} {Pc : Array Value → State → Prop} {Qc : Array Value → State → Outcome → State → Prop} {XC : String → State → State → Prop} {mc ms : Nat} {free : Addr → Prop} {cc : ByteArray} {maxL : Nat} {ret : Option FieldType}
    (hy : plainName y.cls = true) (hw : ws = Cond.code y cc maxL ret :: ws')
    (body : ∀ p e s m args below meth c s₁, BodyLoose p l y (headSpec ws rm) cc maxL ret e s m args below meth c s₁ → c.maxLocals = maxL → (∀ x ∈ c.exceptionTable.toList, False) → Pc args s →
      W p l e (headSpec ws rm).room s m args below meth c s.heap [] 0 0 (vx_MQ below Qc XC args s mc ms free) (entryFrame m args maxL)) : vx_Met l y ws rm Pc Qc XC mc ms free := by
  refine MetFree.of_bodyS (code := cc) (maxLocals := maxL) (ret := ret) hy ?_ ?_
  · intro args s m h hn
    obtain ⟨meth, c, h1, h2, h3, h4, h5, h6, -, -⟩ := Cond.code_spec hn (atoms_spec (ws := ws) h _ (by rw [hw]; exact List.mem_cons_self))
    exact ⟨meth, c, h1, h2, h3, h4, h5, h6⟩
  · intro p e s m args below meth c s₁ B hml hP _
    have hh0 : s₁.heap = s.heap := by rw [B.state]; rfl
    have ht : ∀ x ∈ c.exceptionTable.toList, False := by
      obtain ⟨meth9, c9, h1, h2, -, -, -, -, h7, -⟩ := Cond.code_spec B.named (atoms_spec (ws := ws) B.pre _ (by rw [hw]; exact List.mem_cons_self))
      cases Option.some.inj (h1.symm.trans B.method)
      cases Option.some.inj (h2.symm.trans (Stand.of_body B).code)
      intro x hx
      rw [Array.isEmpty_iff.mp h7] at hx
      cases hx
    obtain ⟨t, a1, o, b1, b2, b3⟩ := body p e s m args below meth c s₁ B hml ht hP s₁ hh0 (Stand.of_body B)
    exact ⟨t, o, a1, b1, b2, b3⟩
/-- the table of a body with handlers -/
theorem vx_table {p : Program} {x y : MethodName} {S : Spec} {cc bytes : ByteArray} {maxL maxL' : Nat} {ret ret' : Option FieldType} {e : Env} {s s₁ : State} {m : MethodId} {args : Array Value} {below : List Frame} {meth : Method} {c : Code} {hh : List (Nat × Nat × Nat × Nat)}
    (B : BodyLoose p l y S cc maxL ret e s m args below meth c s₁) (h : (Cond.codeWith y bytes maxL' ret' hh).before args s = true) : c.exceptionTable.toList = tableOf hh := by
  obtain ⟨m9, meth9, c9, hn9, h1, h2, -, -, h6, -⟩ := Cond.codeWith_spec h
  cases Option.some.inj (hn9.symm.trans B.named)
  cases Option.some.inj (h1.symm.trans B.method)
  cases Option.some.inj (h2.symm.trans (Stand.of_body B).code)
  rw [← h6, table_eq]
end Bodies
end VXA
/-! ===== END ===== -/
/-! ===== BEGIN a static call of a method with an exception table ===== -/
section VXS
variable {p : Program} {l : Launch} {e : Env} {R : Room} {s : State} {m : MethodId} {args : Array Value} {below : List Frame} {meth : Method} {c : Code} {T : State} {H : Heap} {locs : List Loc} {cells slots : Nat}
abbrev vx_CSW (R : Room) (s : State) (args : Array Value) (own : String) (index : Nat) (y : MethodName) (bytes : ByteArray) (maxL : Nat) (ret : Option FieldType) (hh : List (Nat × Nat × Nat × Nat)) (ws : List Cond) (rm : Room) (mc ms n : Nat) : Prop :=
  (rm.cells = mc ∧ rm.slots = ms ∧ rm.frames + 1 ≤ R.frames ∧ 8 + (maxL + 11) + rm.locals ≤ R.locals ∧ (∀ w ∈ ws, ∀ (a' : Array Value) (U : State), s.WarmedH U.vm → w.before a' U = true) ∧ Cond.codeWith y bytes maxL ret hh ∈ ws) ∧
  (Cond.codeWith y bytes maxL ret hh).before args s = true ∧ (Cond.initialized y.cls).before args s = true ∧ (y.cls ≠ "java/lang/invoke/MethodHandle" ∧ y.cls ≠ "java/lang/invoke/VarHandle") ∧
  (∀ sig, parseMethodDescriptor y.desc = some sig → n = sig.parameters.length) ∧ (Cond.methodLink own index y).before args s = true ∧ (Cond.static y).before args s = true
theorem vx_cwSW {own : String} {index maxL mc ms : Nat} {y : MethodName} {bytes : ByteArray} {ret : Option FieldType} {hh : List (Nat × Nat × Nat × Nat)} {Ts ws ws' : List Cond} {rm : Room} (n : Nat) (ht : ∀ w ∈ Ts, w.before args s = true) (hT : GoodIn Ts (va_wsS own index y ws)) (hw : ws = Cond.codeWith y bytes maxL ret hh :: ws') (hrc : rm.cells = mc) (hrs : rm.slots = ms)
    (hd : y.cls ≠ "java/lang/invoke/MethodHandle" ∧ y.cls ≠ "java/lang/invoke/VarHandle" ∧ (parseMethodDescriptor y.desc).map (fun d => d.parameters.length) = some n) (hR : rm.frames + 1 ≤ R.frames ∧ 8 + (maxL + 11) + rm.locals ≤ R.locals) :
    vx_CSW R s args own index y bytes maxL ret hh ws rm mc ms n := by
  have ok : ∀ w ∈ va_wsS own index y ws, w.before args s = true := fun w h => ht w (hT w h).1
  have hG : GoodIn Ts ws := fun w h => hT w (by unfold va_wsS; exact List.mem_append_right _ h)
  have hc : Cond.codeWith y bytes maxL ret hh ∈ ws := by rw [hw]; exact List.mem_cons_self
  refine ⟨⟨hrc, hrs, hR.1, hR.2, pay_in ht hG, hc⟩, ht _ (hG _ hc).1, ok _ (by simp [va_wsS]), ⟨hd.1, hd.2.1⟩, fun sig h => ?_, ok _ (by simp [va_wsS]), ok _ (by simp [va_wsS])⟩
  have h2 := hd.2.2
  rw [h] at h2
  exact (Option.some.inj h2).symm
theorem vx_callSW (X : Stand p l e R s m args below meth c T locs cells slots) (hexec : p.tables.exec = Jvm.exec) {own : String} {index : Nat} {y : MethodName} {bytes : ByteArray} {maxL : Nat} {ret : Option FieldType} {hh : List (Nat × Nat × Nat × Nat)}
    (hown : s.vm.findClass own = some m.cls) (hlink : (Cond.methodLink own index y).before args s = true) (hstat : (Cond.static y).before args s = true) (hinit : (Cond.initialized y.cls).before args s = true)
    (hcode : (Cond.codeWith y bytes maxL ret hh).before args s = true) (hy : y.cls ≠ "java/lang/invoke/MethodHandle" ∧ y.cls ≠ "java/lang/invoke/VarHandle")
    {W9 : Nat} {Pre : Pt → Array Value → Prop} {Post : Pt → Array Value → Option Value → Pt → Prop} (hK : Back l R p e below s args y 3 W9 Pre Post)
    {g : JFrame} (hg : g.method = m) (hsize : g.locals.size = c.maxLocals) {argsL rest : List Value} (hlen : ∀ sig, parseMethodDescriptor y.desc = some sig → argsL.length = sig.parameters.length)
    (hstack : g.stack = argsL.reverse ++ rest) (hW : 2 * g.monitorRoom + (rest.map fun v => v.category).sum ≤ W9) (hdg : decode c.code g.pc = .ok (.invokestatic index, 3))
    (hpre : ∀ vm₁, s.WarmedH vm₁ → Pre ⟨T.setVm vm₁, locs, cells, slots⟩ argsL.toArray) :
    ∃ (v : Option Value) (vm₁ : Vm) (B : Pt), s.WarmedH vm₁ ∧ Stand p l e R s m args below meth c B.U B.locs B.cells B.slots ∧ Post ⟨T.setVm vm₁, locs, cells, slots⟩ argsL.toArray v B ∧
      ∀ target, Steps p.tables e below (B.U.setTop { g with pc := g.pc + 3, stack := v.toList ++ rest }) target → Steps p.tables e below (T.setTop g) target := by
  obtain ⟨mk, methM, cM, hnamed, hmethM, -, -, -, -, -, -, hsigM⟩ := Cond.codeWith_spec hcode
  have hstatic : methM.isStatic = true := Cond.static_spec hnamed hmethM hstat
  obtain ⟨kP, hkP, -⟩ := className_of_methodNamed hnamed
  have hinitP : kP.init = .initialized := Cond.initialized_spec (findClass_of_methodNamed hnamed) hkP hinit
  obtain ⟨vm₁, X₁, hstep₁⟩ := X.invokestatic hexec hown hlink hnamed hmethM hstatic hkP hinitP hy (g := g) hg (argsL := argsL) (rest := rest) (hlen _ hsigM) hstack hdg
  obtain ⟨v, B, X', hpost, hsteps⟩ := hK m meth c ⟨T.setVm vm₁, locs, cells, slots⟩ { g with stack := rest } (.invokestatic index) mk argsL.toArray X₁ hg hsize hdg hW (X₁.named hnamed) (hpre vm₁ X₁.warmed)
  exact ⟨v, vm₁, B, X₁.warmed, X', hpost, fun target h => hstep₁ _ fun acts => by rw [doInvoke_state]; exact hsteps.trans h⟩
theorem vx_runSW {y : MethodName} {bytes cc : ByteArray} {maxL nL mc ms n index : Nat} {ret : Option FieldType} {hh : List (Nat × Nat × Nat × Nat)} {ws : List Cond} {rm : Room} {Pc : Array Value → State → Prop} {Qc : Array Value → State → Outcome → State → Prop} {free : Addr → Prop} {Ts : List Cond} {own : String} {As rest : List Value} {g : JFrame}
    (S : CallFix p m c cc nL s args Ts own) (hM : Met l y ws rm Pc Qc mc ms free) (cw : vx_CSW R s args own index y bytes maxL ret hh ws rm mc ms n) (hp : PreS s H Pc As)
    (hg : g.method = m) (hn : As.length = n) (hsize : g.locals.size = nL) (hstack : g.stack = As.reverse ++ rest) (hW : 2 * g.monitorRoom + (rest.map fun v => v.category).sum ≤ 8) (hdg : decode cc g.pc = .ok (.invokestatic index, 3)) (hf : cells + mc ≤ R.cells ∧ slots + ms ≤ R.slots) :
    va_Run p l e R s m args below meth c H locs cells slots mc ms g rest (Qc As.toArray) (free) := by
  obtain ⟨⟨hrc, hrs, hfr, hlo, hws, hcw⟩, hcode, hini, hy, hlen, hl, hstt⟩ := cw
  have hK : Back l R p e below s args y 3 8 (PreOf R mc ms Pc) (PostOf Qc mc ms free) := va_backW (hh := hh) (bytes := bytes) (maxL := maxL) (ret := ret) hM hp.1 hrc hrs hfr hlo hws hcw (fun a' U hW => word_at hW (Or.inl (by first | rfl | simp [Cond.onTables, Cond.keeps, Cond.steady])) hini)
  obtain ⟨hx, hb, hml, ho, -⟩ := S
  intro T hT X
  obtain ⟨v, vm₁, ⟨U', l2, c2, s2⟩, hW₁, X', ⟨g', mk, t, L, e1, e2, hq, h1, hL, h2, h3⟩, st⟩ := vx_callSW X hx (hh := hh) (bytes := bytes) (maxL := maxL) (ret := ret) ho hl hstt hini hcode hy hK hg (hsize.trans hml.symm) (argsL := As) (rest := rest) (fun sig h => hn.trans (hlen sig h)) hstack hW (by rw [hb]; exact hdg)
    (fun vm₁ hW₁ => ⟨hf.1, hf.2, hp.2 (T.setVm vm₁) hT hW₁⟩)
  dsimp only [Pt.U, Pt.locs, Pt.cells, Pt.slots] at X' e1 e2 h1 h2 h3 st
  subst h1; subst h2; subst h3
  exact ⟨v, (T.setVm vm₁).calling g' mk As.toArray, t, U', L, hT, X', hL, e1, e2, hq, st⟩
/-- not caught here, past rows that name other classes: it goes on to the caller -/
theorem vx_outP {p : Program} {l : Launch} {e : Env} {R : Room} {s : State} {m : MethodId} {args : Array Value} {below : List Frame} {meth : Method} {c : Code} {H : Heap} {locs : List Loc} {cells slots : Nat} {free : Addr → Prop} {ls : Array Slot} {rest : List Value} {Qc : Array Value → State → Outcome → State → Prop} {XC : String → State → State → Prop}
    {pc : Nat} {own E : String} {ce : Cell} {q : Addr} {mc ms : Nat} (hown : s.vm.findClass own = some m.cls) (hlocks : meth.locks = false)
    (hpass : ∀ z ∈ c.exceptionTable.toList, covers z pc = false ∨ (z.catchType ≠ 0 ∧ ∃ nm : String, (Cond.classLink own z.catchType nm).before args s = true ∧ va_Nc E nm s)) (hcell : H[q]? = some ce) (hv : ce.vm = .none) (hcl : s.vm.findClass E = some ce.cls)
    (hx : ∀ t : State, t.heap = H → s.vm.Alike t.vm → XC E s t) (hf : ∀ z ∈ locs, free z.base) (hc : cells ≤ mc) (hs : slots ≤ ms) :
    vx_W p l e R s m args below meth c H locs cells slots (vx_MQ below Qc XC args s mc ms free) (F0 m pc ls rest) q := by
  intro T hT X
  have hpl : e.platform.magicAccessors = ({} : Platform).magicAccessors := by rw [X.admits.platform]
  obtain ⟨vm', hW', X', st⟩ := X.outThrough hlocks q (g := F0 m pc ls rest) rfl rfl rfl (cell := ce) (by rw [hT]; exact hcell) (by rw [hv]; rfl)
    (by obtain ⟨k9, h9, -⟩ := Vm.findClass_spec hcl; exact ⟨k9, h9⟩) (fun z hz => by
      rcases hpass z hz with h | ⟨hz0, nm, hl1, hn1⟩
      · exact Or.inl h
      · obtain ⟨c6, hc6, hcl6⟩ := Cond.classLink_spec hown hl1 e.platform hpl
        obtain ⟨a8, b8, h1, h2, h3⟩ := hn1
        cases Option.some.inj (h1.symm.trans hcl)
        cases Option.some.inj (h2.symm.trans hc6)
        exact Or.inr ⟨hz0, _, hcl6, h3⟩)
  obtain ⟨g₀, hfr⟩ := X'.frames_eq
  have hcell9 : ((T.setVm vm').setFrames (.throwing q :: below)).heap[q]? = some ce := by
    show T.heap[q]? = some ce
    rw [hT]; exact hcell
  have hend : Ended ((T.setVm vm').setFrames (.throwing q :: below)) below (.threw q) := State.frames_setFrames _ (State.cur_lt_of_frames hfr)
  refine ⟨(T.setVm vm').setFrames (.throwing q :: below), ?_, .threw q, X'.here.running, hend, Or.inr ⟨q, rfl, E, ce, locs, hx _ hT (X'.ends _).1.alike, hcell9, hv, hcl, (X'.ends _).1, (X'.ends _).2.mono hc hs, hf⟩⟩
  rw [X.pushThrowing_eq]
  exact st
/-- a thing of a world lies in the heap -/
theorem vx_lt {D : va_G} {cl : List vw_C} {ws : va_W} {H1 : Heap} (h : va_P D cl ws H1) {k : Nat} {q : Nat × va_E} (hk : ws[k]? = some q) : q.1 < H1.size := (h k q hk).lt
end VXS
/-! ===== END ===== -/
/-! ===== BEGIN methods with a table of their own: called by a name, returning or throwing ===== -/
section VXH
/-! vx_backW, vx_callVX, vx_callSX, vx_callVW, vx_runVW, vx_runVX, vx_runSX, vx_ofWH follow the same proofs as their sisters above (Free/Laws.lean, Shelf42/LK1.lean); vx_outP calls Shelf42/NT130.lean (outThrough). -/
section
variable {l : Launch} {R : Room} {p : Program} {e : Env} {below : List Frame} {s : State} {sargs : Array Value} {y : MethodName} {len W9 : Nat}
theorem vx_backW {ws : List Cond} {rm : Room} {Pc : Array Value → State → Prop} {Qc : Array Value → State → Outcome → State → Prop} {XC : String → State → State → Prop} {mc ms : Nat} {free : Addr → Prop} {bytes : ByteArray} {maxL : Nat} {ret : Option FieldType} {hh : List (Nat × Nat × Nat × Nat)}
    (hM : vx_Met l y ws rm Pc Qc XC mc ms free) (hblind : FrameBlind Pc) (hrc : rm.cells = mc) (hrs : rm.slots = ms)
    (hframes : rm.frames + 1 ≤ R.frames) (hlocals : W9 + (maxL + 11) + rm.locals ≤ R.locals)
    (hws : ∀ w ∈ ws, ∀ a' U, s.WarmedH U.vm → w.before a' U = true) (hcode : Cond.codeWith y bytes maxL ret hh ∈ ws) (hinit : ∀ a' U, s.WarmedH U.vm → (Cond.initialized y.cls).before a' U = true) :
    vx_Back l R p e below s sargs y len W9 (PreOf R mc ms Pc) (PostOf Qc mc ms free) (vx_Post XC mc ms free) := by
  intro m meth c A g ig mk a X hg hsize hdg hW hn hp
  have h1 : (headSpec ws rm).pre.before a A.U = true := atoms_intro fun w hw => hws w hw _ _ X.warmed
  have h2 : (Cond.codeWith y bytes maxL ret hh).before a A.U = true := hws _ hcode _ _ X.warmed
  have h3 : (Cond.initialized y.cls).before a A.U = true := hinit _ _ X.warmed
  have h4 : A.cells + (headSpec ws rm).room.cells ≤ R.cells := by rw [show (headSpec ws rm).room.cells = mc from hrc]; exact hp.1
  have h5 : A.slots + (headSpec ws rm).room.slots ≤ R.slots := by rw [show (headSpec ws rm).room.slots = ms from hrs]; exact hp.2.1
  have hPc : Pc a (A.U.calling g mk a) := hblind _ _ _ _ hp.2.2
  obtain ⟨U, Ls, c0, s0⟩ := A
  dsimp only [Pt.U, Pt.locs, Pt.cells, Pt.slots] at h1 h2 h3 h4 h5 X hn hPc ⊢
  obtain ⟨m9, methY, cY, hn9, hmY, hcY, -, hlY, -⟩ := Cond.codeWith_spec h2
  cases Option.some.inj (hn9.symm.trans hn)
  obtain ⟨kY, hkY, -⟩ := className_of_methodNamed hn
  have hinitY : kY.init = .initialized := Cond.initialized_spec (findClass_of_methodNamed hn) hkY h3
  have h : At U g.method c below := by rw [hg]; exact X.here
  have hlocals9 : W9 + (maxL + 11) + (headSpec ws rm).room.locals ≤ R.locals := hlocals
  have happ : (headSpec ws rm).appliesLoose y e.platform (U.calling g mk a) = true :=
    Spec.appliesLoose_calling (g := g) h hdg hn hkY hinitY
      (X.room_calling (g := g) (R' := (headSpec ws rm).room) hsize hmY hcY hframes (by rw [hlY]; omega) h4 h5) h1
  obtain ⟨mid, hmid⟩ := h.above
  have hfr : (U.setTop g).frames = (.java g :: mid) ++ below := by rw [State.frames_setTop' g h.top, hmid]; rfl
  obtain ⟨o, s₂, hsteps, -, hend, hq⟩ := Steps.callFree hM p X.admits X.cas X.clock (acts := []) hfr happ hPc trivial
  have hq' : vx_Q Qc XC mc ms free a (U.calling g mk a) o s₂ := hq
  rw [State.frames_setTop' g h.top] at hend
  obtain ⟨g₀, hg0⟩ := Option.isSome_iff_exists.mp h.top
  obtain ⟨r, hr⟩ := State.topJava?_eq_some.mp hg0
  have hr' : (({ U with heap := s₂.heap, slotsUsed := s₂.slotsUsed } : State).setVm s₂.vm).frames = .java g₀ :: r := hr
  rcases hq' with ⟨hqc, L, hfe, hL⟩ | ⟨q, rfl, E, ce, L, hx, hce, hcv, hcl, hW₂, hsm, hL⟩
  · obtain ⟨⟨v, rfl⟩, hW₂, e2, q2, q3, q4, q5, q6⟩ := id hfe
    have e3 : s₂ = ({ (U.calling g mk a).setFrames s₂.frames with heap := s₂.heap, slotsUsed := s₂.slotsUsed } : State).setVm s₂.vm := by
      have : s₂ = ({ s₂ with vm := (U.calling g mk a).vm } : State).setVm s₂.vm := rfl
      rw [e2] at this
      exact this
    obtain ⟨c₂, i₂, len₂, hc₂, hd₂, hf₂⟩ := hend
    have hW' : U.WarmedH s₂.vm := hW₂
    have hcc : c₂ = c := by
      have h1 : s₂.code? g.method = U.code? g.method := by
        rw [State.code?_eq, State.code?_eq, hW'.alike.method?]
      exact Option.some.inj (hc₂.symm.trans (h1.trans h.code))
    subst hcc
    have hlen : len₂ = len := by rw [hdg] at hd₂; cases hd₂; rfl
    subst hlen
    have hs₂ : s₂ = (({ U with heap := s₂.heap, slotsUsed := s₂.slotsUsed } : State).setVm s₂.vm).setTop { g with pc := g.pc + len₂, stack := v.toList ++ g.stack } := by
      refine e3.trans ?_
      rw [hf₂, State.calling_eq h.top, State.setFrames_setFrames, State.setTop_of_frames _ hr', hr]
      rfl
    have hsame : U.sameButNew ({ U with heap := s₂.heap, slotsUsed := s₂.slotsUsed } : State) L mc ms := by
      refine ⟨?_, q2, q3, q4, q5, q6⟩
      obtain ⟨t, ht, -⟩ := State.frames_cons hr
      show ({ U with heap := s₂.heap, slotsUsed := s₂.slotsUsed } : State) = { U.setFrames U.frames with heap := s₂.heap, slotsUsed := s₂.slotsUsed }
      rw [State.setFrames_self ht]
    subst hg
    refine Or.inl ⟨v, ⟨(({ U with heap := s₂.heap, slotsUsed := s₂.slotsUsed } : State).setVm s₂.vm), Ls ++ L, c0 + mc, s0 + ms⟩,
      ⟨X.admits, X.cas, X.clock, X.frames, X.room, X.hears, X.method, X.code, (X.here.setHeapUsed s₂.heap s₂.slotsUsed).setVm hW'.alike, X.tail, State.WarmedH.trans X.warmed hW', X.limits, X.bytes, X.same.trans (hsame.setVm s.vm)⟩,
      ⟨g, mk, s₂, L, rfl, rfl, hqc, rfl, hL, rfl, rfl⟩, ?_⟩
    show Steps p.tables e below _ ((({ U with heap := s₂.heap, slotsUsed := s₂.slotsUsed } : State).setVm s₂.vm).setTop { g with pc := g.pc + len₂, stack := v.toList ++ g.stack })
    rw [← hs₂]
    exact hsteps
  · obtain ⟨e2, q2, q3, q4, q5, q6⟩ := id hsm
    have e3 : s₂ = ({ (U.calling g mk a).setFrames s₂.frames with heap := s₂.heap, slotsUsed := s₂.slotsUsed } : State).setVm s₂.vm := by
      have : s₂ = ({ s₂ with vm := (U.calling g mk a).vm } : State).setVm s₂.vm := rfl
      rw [e2] at this
      exact this
    have hf₂ : s₂.frames = .throwing q :: .java g :: U.frames.tail := hend
    have hW' : U.WarmedH s₂.vm := hW₂
    have hs₂ : s₂ = ((({ U with heap := s₂.heap, slotsUsed := s₂.slotsUsed } : State).setVm s₂.vm).setTop g).pushFrame (.throwing q) := by
      refine e3.trans ?_
      rw [hf₂, State.calling_eq h.top, State.setFrames_setFrames, State.pushFrame, State.frames_setTop _ hr', State.setTop_of_frames _ hr', State.setFrames_setFrames, hr]
      rfl
    have hsame : U.sameButNew ({ U with heap := s₂.heap, slotsUsed := s₂.slotsUsed } : State) L mc ms := by
      refine ⟨?_, q2, q3, q4, q5, q6⟩
      obtain ⟨t, ht, -⟩ := State.frames_cons hr
      show ({ U with heap := s₂.heap, slotsUsed := s₂.slotsUsed } : State) = { U.setFrames U.frames with heap := s₂.heap, slotsUsed := s₂.slotsUsed }
      rw [State.setFrames_self ht]
    subst hg
    refine Or.inr ⟨q, ⟨(({ U with heap := s₂.heap, slotsUsed := s₂.slotsUsed } : State).setVm s₂.vm), Ls ++ L, c0 + mc, s0 + ms⟩,
      ⟨X.admits, X.cas, X.clock, X.frames, X.room, X.hears, X.method, X.code, (X.here.setHeapUsed s₂.heap s₂.slotsUsed).setVm hW'.alike, X.tail, State.WarmedH.trans X.warmed hW', X.limits, X.bytes, X.same.trans (hsame.setVm s.vm)⟩,
      ⟨g, mk, s₂, L, E, ce, rfl, rfl, hx, hce, hcv, hcl, rfl, hL, rfl, rfl⟩, ?_⟩
    show Steps p.tables e below _ (((({ U with heap := s₂.heap, slotsUsed := s₂.slotsUsed } : State).setVm s₂.vm).setTop g).pushFrame (.throwing q))
    rw [← hs₂]
    exact hsteps
end
variable {p : Program} {l : Launch} {e : Env} {R : Room} {s : State} {m : MethodId} {args : Array Value} {below : List Frame} {meth : Method} {c : Code} {T : State} {H : Heap} {locs : List Loc} {cells slots : Nat}
theorem vx_callVX (X : Stand p l e R s m args below meth c T locs cells slots) (hexec : p.tables.exec = Jvm.exec) {own C : String} {index : Nat} {y : MethodName} {bytes : ByteArray} {maxL : Nat} {ret : Option FieldType} {hh : List (Nat × Nat × Nat × Nat)}
    (hown : s.vm.findClass own = some m.cls) (hlink : (Cond.methodLink own index y).before args s = true) (hinst : (Cond.instanceMethod y).before args s = true) (hsel : (Cond.selects C y y).before args s = true)
    (hcode : (Cond.codeWith y bytes maxL ret hh).before args s = true) (hy : y.cls ≠ "java/lang/invoke/MethodHandle" ∧ y.cls ≠ "java/lang/invoke/VarHandle")
    {W9 : Nat} {Pre : Pt → Array Value → Prop} {Post : Pt → Array Value → Option Value → Pt → Prop} {PostX : Pt → Array Value → Addr → Pt → Prop} (hK : vx_Back l R p e below s args y 3 W9 Pre Post PostX)
    {b : Addr} {cellB : Cell} (hcell : T.heap[b]? = some cellB) (hobj : cellB.vm.isStatics = false) (hcls : s.vm.findClass C = some cellB.cls)
    {g : JFrame} (hg : g.method = m) (hsize : g.locals.size = c.maxLocals) {argsL rest : List Value} (hlen : ∀ sig, parseMethodDescriptor y.desc = some sig → argsL.length = sig.parameters.length)
    (hstack : g.stack = argsL.reverse ++ .ref b :: rest) (hW : 2 * g.monitorRoom + (rest.map fun v => v.category).sum ≤ W9) (hdg : decode c.code g.pc = .ok (.invokevirtual index, 3))
    (hpre : ∀ vm₁, s.WarmedH vm₁ → Pre ⟨T.setVm vm₁, locs, cells, slots⟩ (Value.ref b :: argsL).toArray) :
    (∃ (v : Option Value) (vm₁ : Vm) (B : Pt), s.WarmedH vm₁ ∧ Stand p l e R s m args below meth c B.U B.locs B.cells B.slots ∧ Post ⟨T.setVm vm₁, locs, cells, slots⟩ (Value.ref b :: argsL).toArray v B ∧
      ∀ target, Steps p.tables e below (B.U.setTop { g with pc := g.pc + 3, stack := v.toList ++ rest }) target → Steps p.tables e below (T.setTop g) target) ∨
    (∃ (q : Addr) (vm₁ : Vm) (B : Pt), s.WarmedH vm₁ ∧ Stand p l e R s m args below meth c B.U B.locs B.cells B.slots ∧ PostX ⟨T.setVm vm₁, locs, cells, slots⟩ (Value.ref b :: argsL).toArray q B ∧
      Steps p.tables e below (T.setTop g) ((B.U.setTop { g with stack := rest }).pushFrame (.throwing q))) := by
  obtain ⟨mk, methM, hnamed, hmethM, hstM, habM⟩ := Cond.instanceMethod_spec hinst
  obtain ⟨m8, methM', cM, hn8, hmethM', -, -, -, -, -, -, hsigM⟩ := Cond.codeWith_spec hcode
  cases Option.some.inj (hn8.symm.trans hnamed)
  cases hmethM.symm.trans hmethM'
  obtain ⟨c2, r2, m2, q1, q2, q3, q4, kP, hkP, hkPi⟩ := Cond.selects_spec hsel
  cases hcls.symm.trans q1
  cases (State.methodFound?_of_named hnamed hy).symm.trans q2
  cases hnamed.symm.trans q3
  have hselP : selectMethod e.platform s.vm cellB.cls mk = .method mk := by rw [Launch.admits_selectMethod X.admits]; exact q4
  obtain ⟨vm₁, X₁, hstep₁⟩ := X.invokevirtual hexec hown hlink hnamed hmethM hstM hkP hkPi hy (a := b) (cell := cellB) hcell
    (fun z h => by rw [h] at hobj; cases hobj) hselP hmethM habM hkP hkPi (g := g) hg (argsL := argsL) (rest := rest) (hlen _ hsigM) hstack hdg
  rcases hK m meth c ⟨T.setVm vm₁, locs, cells, slots⟩ { g with stack := rest } (.invokevirtual index) mk (Value.ref b :: argsL).toArray X₁ hg hsize hdg hW (X₁.named hnamed) (hpre vm₁ X₁.warmed) with ⟨v, B, X', hpost, hsteps⟩ | ⟨q, B, X', hpost, hsteps⟩
  · exact Or.inl ⟨v, vm₁, B, X₁.warmed, X', hpost, fun target h => hstep₁ _ fun acts => by rw [doInvoke_state]; exact hsteps.trans h⟩
  · exact Or.inr ⟨q, vm₁, B, X₁.warmed, X', hpost, hstep₁ _ fun acts => by rw [doInvoke_state]; exact hsteps⟩
theorem vx_callSX (X : Stand p l e R s m args below meth c T locs cells slots) (hexec : p.tables.exec = Jvm.exec) {own : String} {index : Nat} {y : MethodName} {bytes : ByteArray} {maxL : Nat} {ret : Option FieldType} {hh : List (Nat × Nat × Nat × Nat)}
    (hown : s.vm.findClass own = some m.cls) (hlink : (Cond.methodLink own index y).before args s = true) (hstat : (Cond.static y).before args s = true) (hinit : (Cond.initialized y.cls).before args s = true)
    (hcode : (Cond.codeWith y bytes maxL ret hh).before args s = true) (hy : y.cls ≠ "java/lang/invoke/MethodHandle" ∧ y.cls ≠ "java/lang/invoke/VarHandle")
    {W9 : Nat} {Pre : Pt → Array Value → Prop} {Post : Pt → Array Value → Option Value → Pt → Prop} {PostX : Pt → Array Value → Addr → Pt → Prop} (hK : vx_Back l R p e below s args y 3 W9 Pre Post PostX)
    {g : JFrame} (hg : g.method = m) (hsize : g.locals.size = c.maxLocals) {argsL rest : List Value} (hlen : ∀ sig, parseMethodDescriptor y.desc = some sig → argsL.length = sig.parameters.length)
    (hstack : g.stack = argsL.reverse ++ rest) (hW : 2 * g.monitorRoom + (rest.map fun v => v.category).sum ≤ W9) (hdg : decode c.code g.pc = .ok (.invokestatic index, 3))
    (hpre : ∀ vm₁, s.WarmedH vm₁ → Pre ⟨T.setVm vm₁, locs, cells, slots⟩ argsL.toArray) :
    (∃ (v : Option Value) (vm₁ : Vm) (B : Pt), s.WarmedH vm₁ ∧ Stand p l e R s m args below meth c B.U B.locs B.cells B.slots ∧ Post ⟨T.setVm vm₁, locs, cells, slots⟩ argsL.toArray v B ∧
      ∀ target, Steps p.tables e below (B.U.setTop { g with pc := g.pc + 3, stack := v.toList ++ rest }) target → Steps p.tables e below (T.setTop g) target) ∨
    (∃ (q : Addr) (vm₁ : Vm) (B : Pt), s.WarmedH vm₁ ∧ Stand p l e R s m args below meth c B.U B.locs B.cells B.slots ∧ PostX ⟨T.setVm vm₁, locs, cells, slots⟩ argsL.toArray q B ∧
      Steps p.tables e below (T.setTop g) ((B.U.setTop { g with stack := rest }).pushFrame (.throwing q))) := by
  obtain ⟨mk, methM, cM, hnamed, hmethM, -, -, -, -, -, -, hsigM⟩ := Cond.codeWith_spec hcode
  have hstatic : methM.isStatic = true := Cond.static_spec hnamed hmethM hstat
  obtain ⟨kP, hkP, -⟩ := className_of_methodNamed hnamed
  have hinitP : kP.init = .initialized := Cond.initialized_spec (findClass_of_methodNamed hnamed) hkP hinit
  obtain ⟨vm₁, X₁, hstep₁⟩ := X.invokestatic hexec hown hlink hnamed hmethM hstatic hkP hinitP hy (g := g) hg (argsL := argsL) (rest := rest) (hlen _ hsigM) hstack hdg
  rcases hK m meth c ⟨T.setVm vm₁, locs, cells, slots⟩ { g with stack := rest } (.invokestatic index) mk argsL.toArray X₁ hg hsize hdg hW (X₁.named hnamed) (hpre vm₁ X₁.warmed) with ⟨v, B, X', hpost, hsteps⟩ | ⟨q, B, X', hpost, hsteps⟩
  · exact Or.inl ⟨v, vm₁, B, X₁.warmed, X', hpost, fun target h => hstep₁ _ fun acts => by rw [doInvoke_state]; exact hsteps.trans h⟩
  · exact Or.inr ⟨q, vm₁, B, X₁.warmed, X', hpost, hstep₁ _ fun acts => by rw [doInvoke_state]; exact hsteps⟩
theorem vx_callVW (X : Stand p l e R s m args below meth c T locs cells slots) (hexec : p.tables.exec = Jvm.exec) {own C : String} {index : Nat} {y : MethodName} {bytes : ByteArray} {maxL : Nat} {ret : Option FieldType} {hh : List (Nat × Nat × Nat × Nat)}
    (hown : s.vm.findClass own = some m.cls) (hlink : (Cond.methodLink own index y).before args s = true) (hinst : (Cond.instanceMethod y).before args s = true) (hsel : (Cond.selects C y y).before args s = true)
    (hcode : (Cond.codeWith y bytes maxL ret hh).before args s = true) (hy : y.cls ≠ "java/lang/invoke/MethodHandle" ∧ y.cls ≠ "java/lang/invoke/VarHandle")
    {W9 : Nat} {Pre : Pt → Array Value → Prop} {Post : Pt → Array Value → Option Value → Pt → Prop} (hK : Back l R p e below s args y 3 W9 Pre Post)
    {b : Addr} {cellB : Cell} (hcell : T.heap[b]? = some cellB) (hobj : cellB.vm.isStatics = false) (hcls : s.vm.findClass C = some cellB.cls)
    {g : JFrame} (hg : g.method = m) (hsize : g.locals.size = c.maxLocals) {argsL rest : List Value} (hlen : ∀ sig, parseMethodDescriptor y.desc = some sig → argsL.length = sig.parameters.length)
    (hstack : g.stack = argsL.reverse ++ .ref b :: rest) (hW : 2 * g.monitorRoom + (rest.map fun v => v.category).sum ≤ W9) (hdg : decode c.code g.pc = .ok (.invokevirtual index, 3))
    (hpre : ∀ vm₁, s.WarmedH vm₁ → Pre ⟨T.setVm vm₁, locs, cells, slots⟩ (Value.ref b :: argsL).toArray) :
    ∃ (v : Option Value) (vm₁ : Vm) (B : Pt), s.WarmedH vm₁ ∧ Stand p l e R s m args below meth c B.U B.locs B.cells B.slots ∧ Post ⟨T.setVm vm₁, locs, cells, slots⟩ (Value.ref b :: argsL).toArray v B ∧
      ∀ target, Steps p.tables e below (B.U.setTop { g with pc := g.pc + 3, stack := v.toList ++ rest }) target → Steps p.tables e below (T.setTop g) target := by
  obtain ⟨mk, methM, hnamed, hmethM, hstM, habM⟩ := Cond.instanceMethod_spec hinst
  obtain ⟨m8, methM', cM, hn8, hmethM', -, -, -, -, -, -, hsigM⟩ := Cond.codeWith_spec hcode
  cases Option.some.inj (hn8.symm.trans hnamed)
  cases hmethM.symm.trans hmethM'
  obtain ⟨c2, r2, m2, q1, q2, q3, q4, kP, hkP, hkPi⟩ := Cond.selects_spec hsel
  cases hcls.symm.trans q1
  cases (State.methodFound?_of_named hnamed hy).symm.trans q2
  cases hnamed.symm.trans q3
  have hselP : selectMethod e.platform s.vm cellB.cls mk = .method mk := by rw [Launch.admits_selectMethod X.admits]; exact q4
  obtain ⟨vm₁, X₁, hstep₁⟩ := X.invokevirtual hexec hown hlink hnamed hmethM hstM hkP hkPi hy (a := b) (cell := cellB) hcell
    (fun z h => by rw [h] at hobj; cases hobj) hselP hmethM habM hkP hkPi (g := g) hg (argsL := argsL) (rest := rest) (hlen _ hsigM) hstack hdg
  obtain ⟨v, B, X', hpost, hsteps⟩ := hK m meth c ⟨T.setVm vm₁, locs, cells, slots⟩ { g with stack := rest } (.invokevirtual index) mk (Value.ref b :: argsL).toArray X₁ hg hsize hdg hW (X₁.named hnamed) (hpre vm₁ X₁.warmed)
  exact ⟨v, vm₁, B, X₁.warmed, X', hpost, fun target h => hstep₁ _ fun acts => by rw [doInvoke_state]; exact hsteps.trans h⟩
abbrev vx_CVW (R : Room) (s : State) (args : Array Value) (own C : String) (index : Nat) (y : MethodName) (bytes : ByteArray) (maxL : Nat) (ret : Option FieldType) (hh : List (Nat × Nat × Nat × Nat)) (ws : List Cond) (rm : Room) (mc ms n : Nat) : Prop :=
  (rm.cells = mc ∧ rm.slots = ms ∧ rm.frames + 1 ≤ R.frames ∧ 8 + (maxL + 11) + rm.locals ≤ R.locals ∧ (∀ w ∈ ws, ∀ (a' : Array Value) (U : State), s.WarmedH U.vm → w.before a' U = true) ∧ Cond.codeWith y bytes maxL ret hh ∈ ws) ∧
  (Cond.codeWith y bytes maxL ret hh).before args s = true ∧ (Cond.initialized y.cls).before args s = true ∧ (y.cls ≠ "java/lang/invoke/MethodHandle" ∧ y.cls ≠ "java/lang/invoke/VarHandle") ∧
  (∀ sig, parseMethodDescriptor y.desc = some sig → n = sig.parameters.length) ∧ (Cond.methodLink own index y).before args s = true ∧ (Cond.instanceMethod y).before args s = true ∧ (Cond.selects C y y).before args s = true
theorem vx_cwVW {own C : String} {index maxL mc ms : Nat} {y : MethodName} {bytes : ByteArray} {ret : Option FieldType} {hh : List (Nat × Nat × Nat × Nat)} {Ts ws ws' : List Cond} {rm : Room} (n : Nat) (ht : ∀ w ∈ Ts, w.before args s = true) (hT : GoodIn Ts (wsV own index C y ws)) (hw : ws = Cond.codeWith y bytes maxL ret hh :: ws') (hrc : rm.cells = mc) (hrs : rm.slots = ms)
    (hd : y.cls = C ∧ y.cls ≠ "java/lang/invoke/MethodHandle" ∧ y.cls ≠ "java/lang/invoke/VarHandle" ∧ (parseMethodDescriptor y.desc).map (fun d => d.parameters.length) = some n) (hR : rm.frames + 1 ≤ R.frames ∧ 8 + (maxL + 11) + rm.locals ≤ R.locals) :
    vx_CVW R s args own C index y bytes maxL ret hh ws rm mc ms n := by
  obtain ⟨hC, hd⟩ := hd
  subst hC
  have ok : ∀ w ∈ wsV own index y.cls y ws, w.before args s = true := fun w h => ht w (hT w h).1
  have hG : GoodIn Ts ws := fun w h => hT w (by unfold wsV; exact List.mem_append_right _ h)
  have hc : Cond.codeWith y bytes maxL ret hh ∈ ws := by rw [hw]; exact List.mem_cons_self
  refine ⟨⟨hrc, hrs, hR.1, hR.2, pay_in ht hG, hc⟩, ht _ (hG _ hc).1, ok _ (by simp [wsV]), ⟨hd.1, hd.2.1⟩, fun sig h => ?_, ok _ (by simp [wsV]), ok _ (by simp [wsV]), ok _ (by simp [wsV])⟩
  have h2 := hd.2.2
  rw [h] at h2
  exact (Option.some.inj h2).symm
theorem vx_runVW {y : MethodName} {bytes cc : ByteArray} {maxL nL mc ms n index : Nat} {ret : Option FieldType} {hh : List (Nat × Nat × Nat × Nat)} {ws : List Cond} {rm : Room} {Pc : Array Value → State → Prop} {Qc : Array Value → State → Outcome → State → Prop} {free : Addr → Prop} {Ts : List Cond} {own C : String} {b : Addr} {As rest : List Value} {g : JFrame}
    (S : CallFix p m c cc nL s args Ts own) (hM : Met l y ws rm Pc Qc mc ms free) (cw : vx_CVW R s args own C index y bytes maxL ret hh ws rm mc ms n) (hp : PreV s H C b Pc As)
    (hg : g.method = m) (hn : As.length = n) (hsize : g.locals.size = nL) (hstack : g.stack = As.reverse ++ .ref b :: rest) (hW : 2 * g.monitorRoom + (rest.map fun v => v.category).sum ≤ 8) (hdg : decode cc g.pc = .ok (.invokevirtual index, 3)) (hf : cells + mc ≤ R.cells ∧ slots + ms ≤ R.slots) :
    va_Run p l e R s m args below meth c H locs cells slots mc ms g rest (Qc (Value.ref b :: As).toArray) free := by
  obtain ⟨⟨hrc, hrs, hfr, hlo, hws, hcw⟩, hcode, hini, hy, hlen, hl, hin, hse⟩ := cw
  have hK : Back l R p e below s args y 3 8 (PreOf R mc ms Pc) (PostOf Qc mc ms free) := va_backW (hh := hh) (bytes := bytes) (maxL := maxL) (ret := ret) hM hp.1 hrc hrs hfr hlo hws hcw (fun a' U hW => word_at hW (Or.inl (by first | rfl | simp [Cond.onTables, Cond.keeps, Cond.steady])) hini)
  obtain ⟨hx, hb, hml, ho, -⟩ := S
  obtain ⟨-, ⟨cellB, hcB, hoB, hclB⟩, hPc⟩ := hp
  intro T hT X
  obtain ⟨v, vm₁, ⟨U', l2, c2, s2⟩, hW₁, X', ⟨g', mk, t, L, e1, e2, hq, h1, hL, h2, h3⟩, st⟩ := vx_callVW X hx (C := C) (hh := hh) (bytes := bytes) (maxL := maxL) (ret := ret) ho hl hin hse hcode hy hK (by rw [hT]; exact hcB) hoB hclB hg (hsize.trans hml.symm) (argsL := As) (rest := rest) (fun sig h => hn.trans (hlen sig h)) hstack hW (by rw [hb]; exact hdg)
    (fun vm₁ hW₁ => ⟨hf.1, hf.2, hPc (T.setVm vm₁) hT hW₁⟩)
  dsimp only [Pt.U, Pt.locs, Pt.cells, Pt.slots] at X' e1 e2 h1 h2 h3 st
  subst h1; subst h2; subst h3
  exact ⟨v, (T.setVm vm₁).calling g' mk (Value.ref b :: As).toArray, t, U', L, hT, X', hL, e1, e2, hq, st⟩
section
variable {y : MethodName} {bytes cc : ByteArray} {maxL nL mc ms n index : Nat} {ret : Option FieldType} {ws : List Cond} {rm : Room} {Pc : Array Value → State → Prop} {Qc : Array Value → State → Outcome → State → Prop} {XC : String → State → State → Prop} {free : Addr → Prop} {Ts : List Cond} {own C : String} {b : Addr} {As rest : List Value} {g : JFrame}
theorem vx_runVX {hh : List (Nat × Nat × Nat × Nat)} (S : CallFix p m c cc nL s args Ts own) (hM : vx_Met l y ws rm Pc Qc XC mc ms free) (cw : vx_CVW R s args own C index y bytes maxL ret hh ws rm mc ms n) (hp : PreV s H C b Pc As)
    (hg : g.method = m) (hn : As.length = n) (hsize : g.locals.size = nL) (hstack : g.stack = As.reverse ++ .ref b :: rest) (hW : 2 * g.monitorRoom + (rest.map fun v => v.category).sum ≤ 8) (hdg : decode cc g.pc = .ok (.invokevirtual index, 3)) (hf : cells + mc ≤ R.cells ∧ slots + ms ≤ R.slots) :
    vx_Run p l e R s m args below meth c H locs cells slots mc ms g rest (Qc (Value.ref b :: As).toArray) XC free := by
  obtain ⟨⟨hrc, hrs, hfr, hlo, hws, hcw⟩, hcode, hini, hy, hlen, hl, hin, hse⟩ := cw
  have hK : vx_Back l R p e below s args y 3 8 (PreOf R mc ms Pc) (PostOf Qc mc ms free) (vx_Post XC mc ms free) := vx_backW (hh := hh) (bytes := bytes) (maxL := maxL) (ret := ret) hM hp.1 hrc hrs hfr hlo hws hcw (fun a' U hW => word_at hW (Or.inl (by first | rfl | simp [Cond.onTables, Cond.keeps, Cond.steady])) hini)
  obtain ⟨hx, hb, hml, ho, -⟩ := S
  obtain ⟨-, ⟨cellB, hcB, hoB, hclB⟩, hPc⟩ := hp
  intro T hT X
  rcases vx_callVX X hx (C := C) (hh := hh) (bytes := bytes) (maxL := maxL) (ret := ret) ho hl hin hse hcode hy hK (by rw [hT]; exact hcB) hoB hclB hg (hsize.trans hml.symm) (argsL := As) (rest := rest) (fun sig h => hn.trans (hlen sig h)) hstack hW (by rw [hb]; exact hdg)
    (fun vm₁ hW₁ => ⟨hf.1, hf.2, hPc (T.setVm vm₁) hT hW₁⟩) with ⟨v, vm₁, ⟨U', l2, c2, s2⟩, hW₁, X', ⟨g', mk, t, L, e1, e2, hq, h1, hL, h2, h3⟩, st⟩ | ⟨q, vm₁, ⟨U', l2, c2, s2⟩, hW₁, X', ⟨g', mk, t, L, E, ce, e1, e2, hq, hce, hcv, hcl, h1, hL, h2, h3⟩, st⟩
  · dsimp only [Pt.U, Pt.locs, Pt.cells, Pt.slots] at X' e1 e2 h1 h2 h3 st
    subst h1; subst h2; subst h3
    exact Or.inl ⟨v, (T.setVm vm₁).calling g' mk (Value.ref b :: As).toArray, t, U', L, hT, X', hL, e1, e2, hq, st⟩
  · dsimp only [Pt.U, Pt.locs, Pt.cells, Pt.slots] at X' e1 e2 h1 h2 h3 st hcl
    subst h1; subst h2; subst h3
    exact Or.inr ⟨q, (T.setVm vm₁).calling g' mk (Value.ref b :: As).toArray, t, U', L, E, ce, hT, X', hL, e1, e2, hq, hce, hcv, vx_cls hW₁ hcl, st⟩
theorem vx_runSX {hh : List (Nat × Nat × Nat × Nat)} (S : CallFix p m c cc nL s args Ts own) (hM : vx_Met l y ws rm Pc Qc XC mc ms free) (cw : vx_CSW R s args own index y bytes maxL ret hh ws rm mc ms n) (hp : PreS s H Pc As)
    (hg : g.method = m) (hn : As.length = n) (hsize : g.locals.size = nL) (hstack : g.stack = As.reverse ++ rest) (hW : 2 * g.monitorRoom + (rest.map fun v => v.category).sum ≤ 8) (hdg : decode cc g.pc = .ok (.invokestatic index, 3)) (hf : cells + mc ≤ R.cells ∧ slots + ms ≤ R.slots) :
    vx_Run p l e R s m args below meth c H locs cells slots mc ms g rest (Qc As.toArray) XC free := by
  obtain ⟨⟨hrc, hrs, hfr, hlo, hws, hcw⟩, hcode, hini, hy, hlen, hl, hstt⟩ := cw
  have hK : vx_Back l R p e below s args y 3 8 (PreOf R mc ms Pc) (PostOf Qc mc ms free) (vx_Post XC mc ms free) := vx_backW (hh := hh) (bytes := bytes) (maxL := maxL) (ret := ret) hM hp.1 hrc hrs hfr hlo hws hcw (fun a' U hW => word_at hW (Or.inl (by first | rfl | simp [Cond.onTables, Cond.keeps, Cond.steady])) hini)
  obtain ⟨hx, hb, hml, ho, -⟩ := S
  intro T hT X
  rcases vx_callSX X hx (hh := hh) (bytes := bytes) (maxL := maxL) (ret := ret) ho hl hstt hini hcode hy hK hg (hsize.trans hml.symm) (argsL := As) (rest := rest) (fun sig h => hn.trans (hlen sig h)) hstack hW (by rw [hb]; exact hdg)
    (fun vm₁ hW₁ => ⟨hf.1, hf.2, hp.2 (T.setVm vm₁) hT hW₁⟩) with ⟨v, vm₁, ⟨U', l2, c2, s2⟩, hW₁, X', ⟨g', mk, t, L, e1, e2, hq, h1, hL, h2, h3⟩, st⟩ | ⟨q, vm₁, ⟨U', l2, c2, s2⟩, hW₁, X', ⟨g', mk, t, L, E, ce, e1, e2, hq, hce, hcv, hcl, h1, hL, h2, h3⟩, st⟩
  · dsimp only [Pt.U, Pt.locs, Pt.cells, Pt.slots] at X' e1 e2 h1 h2 h3 st
    subst h1; subst h2; subst h3
    exact Or.inl ⟨v, (T.setVm vm₁).calling g' mk As.toArray, t, U', L, hT, X', hL, e1, e2, hq, st⟩
  · dsimp only [Pt.U, Pt.locs, Pt.cells, Pt.slots] at X' e1 e2 h1 h2 h3 st hcl
    subst h1; subst h2; subst h3
    exact Or.inr ⟨q, (T.setVm vm₁).calling g' mk As.toArray, t, U', L, E, ce, hT, X', hL, e1, e2, hq, hce, hcv, vx_cls hW₁ hcl, st⟩
end
end VXH
theorem vx_ofWH {l : Launch} {y : MethodName} {ws ws' : List Cond} {rm : Room} {Pc : Array Value → State → Prop} {Qc : Array Value → State → Outcome → State → Prop} {XC : String → State → State → Prop} {mc ms : Nat} {free : Addr → Prop} {cc : ByteArray} {maxL : Nat} {ret : Option FieldType} {hh : List (Nat × Nat × Nat × Nat)}
    (hy : plainName y.cls = true) (hw : ws = Cond.codeWith y cc maxL ret hh :: ws')
    (body : ∀ p e s m args below meth c s₁, BodyLoose p l y (headSpec ws rm) cc maxL ret e s m args below meth c s₁ → c.maxLocals = maxL → Pc args s →
      W p l e (headSpec ws rm).room s m args below meth c s.heap [] 0 0 (vx_MQ below Qc XC args s mc ms free) (entryFrame m args maxL)) : vx_Met l y ws rm Pc Qc XC mc ms free := by
  refine MetFree.of_bodyS (code := cc) (maxLocals := maxL) (ret := ret) hy ?_ ?_
  · intro args s m h hn
    obtain ⟨m9, meth, c, hn9, h1, h2, h3, h4, -, h5, h6, -⟩ := Cond.codeWith_spec (atoms_spec (ws := ws) h _ (by rw [hw]; exact List.mem_cons_self))
    cases hn.symm.trans hn9
    exact ⟨meth, c, h1, h2, h3, h4, h5, h6⟩
  · intro p e s m args below meth c s₁ B hml hP _
    have hh0 : s₁.heap = s.heap := by rw [B.state]; rfl
    obtain ⟨t, a1, o, b1, b2, b3⟩ := body p e s m args below meth c s₁ B hml hP s₁ hh0 (Stand.of_body B)
    exact ⟨t, o, a1, b1, b2, b3⟩
/-! ===== END ===== -/
end
section
/-! ===== BEGIN printed: names, fields, word lists, decode rows ===== -/
def RX0 : String := "TunedWrens"
def TX0 : u_T := fun k => match k with
  | 0 => ("TunedWrens", "rungOfWren", "[I", true)
  | 1 => ("TunedWrens", "nudgeOfWren", "[I", true)
  | 2 => ("TunedWrens", "framesOfWren", "[I", true)
  | 3 => ("TunedWrens", "changesOfWren", "[I", true)
  | 4 => ("TunedWrens", "leapsOfWren", "[I", true)
  | 5 => ("TunedWrens", "cleanOfWren", "[I", true)
  | 6 => ("TunedWrens", "framesOfSemitone", "[I", true)
  | 7 => ("TunedWrens", "scaleKey", "I", false)
  | 8 => ("TunedWrens", "scaleMode", "I", false)
  | 9 => ("TunedWrens", "nudgeSpeed", "I", false)
  | 10 => ("TunedWrens", "rungLeash", "I", false)
  | _ => ("TunedWrens", "leapGlide", "I", false)
def tyX0 : Nat → FieldType := fun k => match k with
  | 0 => .array .int
  | 1 => .array .int
  | 2 => .array .int
  | 3 => .array .int
  | 4 => .array .int
  | 5 => .array .int
  | 6 => .array .int
  | 7 => .int
  | 8 => .int
  | 9 => .int
  | 10 => .int
  | _ => .int
abbrev wsX00 : List Cond := u_ws RX0 TX0 12
theorem nmX0 : ∀ a, a < 12 → ∀ b, b < 12 → a ≠ b → (TX0 a).2.1 ≠ (TX0 b).2.1 := by decide +kernel
theorem tyX0_ok : ∀ k, k < 12 → parseFieldDescriptor (TX0 k).2.2.1 = some (tyX0 k) := by decide +kernel
abbrev cX0_init : ByteArray := prog_1_method_1_code
def yX0_init : MethodName := ⟨RX0, "<init>", "()V"⟩
abbrev cX0_setScale : ByteArray := prog_1_method_2_code
def yX0_setScale : MethodName := ⟨RX0, "setScale", "(II)I"⟩
abbrev cX0_setNudging : ByteArray := prog_1_method_3_code
def yX0_setNudging : MethodName := ⟨RX0, "setNudging", "(III)V"⟩
abbrev cX0_sing : ByteArray := prog_1_method_4_code
def yX0_sing : MethodName := ⟨RX0, "sing", "(II)I"⟩
abbrev cX0_slide : ByteArray := prog_1_method_5_code
def yX0_slide : MethodName := ⟨RX0, "slide", "(IIII)I"⟩
abbrev cX0_rest : ByteArray := prog_1_method_6_code
def yX0_rest : MethodName := ⟨RX0, "rest", "(I)I"⟩
abbrev cX0_rungs : ByteArray := prog_1_method_7_code
def yX0_rungs : MethodName := ⟨RX0, "rungs", "()I"⟩
abbrev cX0_nearest : ByteArray := prog_1_method_8_code
def yX0_nearest : MethodName := ⟨RX0, "nearest", "(I)I"⟩
abbrev cX0_rung : ByteArray := prog_1_method_9_code
def yX0_rung : MethodName := ⟨RX0, "rung", "(I)I"⟩
abbrev cX0_stepOf : ByteArray := prog_1_method_10_code
def yX0_stepOf : MethodName := ⟨RX0, "stepOf", "(I)I"⟩
abbrev cX0_rungOf : ByteArray := prog_1_method_11_code
def yX0_rungOf : MethodName := ⟨RX0, "rungOf", "(I)I"⟩
abbrev cX0_nudgeOf : ByteArray := prog_1_method_12_code
def yX0_nudgeOf : MethodName := ⟨RX0, "nudgeOf", "(I)I"⟩
abbrev cX0_framesOf : ByteArray := prog_1_method_13_code
def yX0_framesOf : MethodName := ⟨RX0, "framesOf", "(I)I"⟩
abbrev cX0_changesOf : ByteArray := prog_1_method_14_code
def yX0_changesOf : MethodName := ⟨RX0, "changesOf", "(I)I"⟩
abbrev cX0_leapsOf : ByteArray := prog_1_method_15_code
def yX0_leapsOf : MethodName := ⟨RX0, "leapsOf", "(I)I"⟩
abbrev cX0_cleanOf : ByteArray := prog_1_method_16_code
def yX0_cleanOf : MethodName := ⟨RX0, "cleanOf", "(I)I"⟩
abbrev cX0_framesToRung : ByteArray := prog_1_method_17_code
def yX0_framesToRung : MethodName := ⟨RX0, "framesToRung", "(II)I"⟩
abbrev cX0_sung : ByteArray := prog_1_method_18_code
def yX0_sung : MethodName := ⟨RX0, "sung", "(I)I"⟩
abbrev cX0_bestKey : ByteArray := prog_1_method_19_code
def yX0_bestKey : MethodName := ⟨RX0, "bestKey", "(I)I"⟩
abbrev cX0_within : ByteArray := prog_1_method_20_code
def yX0_within : MethodName := ⟨RX0, "within", "(II)I"⟩
abbrev cX0_inOctaves : ByteArray := prog_1_method_21_code
def yX0_inOctaves : MethodName := ⟨RX0, "inOctaves", "()I"⟩
abbrev cX0_requireWren : ByteArray := prog_1_method_22_code
def yX0_requireWren : MethodName := ⟨RX0, "requireWren", "(I)V"⟩
abbrev cX0_requirePitch : ByteArray := prog_1_method_23_code
def yX0_requirePitch : MethodName := ⟨RX0, "requirePitch", "(I)V"⟩
abbrev cX0_requireRange : ByteArray := prog_1_method_24_code
def yX0_requireRange : MethodName := ⟨RX0, "requireRange", "(III)V"⟩
abbrev cX0_singFrame : ByteArray := prog_1_method_25_code
def yX0_singFrame : MethodName := ⟨RX0, "singFrame", "(II)I"⟩
abbrev cX0_nextRung : ByteArray := prog_1_method_26_code
def yX0_nextRung : MethodName := ⟨RX0, "nextRung", "(II)I"⟩
abbrev cX0_nextNudge : ByteArray := prog_1_method_27_code
def yX0_nextNudge : MethodName := ⟨RX0, "nextNudge", "(III)I"⟩
abbrev cX0_nudgeTowards : ByteArray := prog_1_method_28_code
def yX0_nudgeTowards : MethodName := ⟨RX0, "nudgeTowards", "(II)I"⟩
abbrev cX0_isChange : ByteArray := prog_1_method_29_code
def yX0_isChange : MethodName := ⟨RX0, "isChange", "(II)Z"⟩
abbrev cX0_isLeap : ByteArray := prog_1_method_30_code
def yX0_isLeap : MethodName := ⟨RX0, "isLeap", "(II)Z"⟩
abbrev cX0_isRung : ByteArray := prog_1_method_31_code
def yX0_isRung : MethodName := ⟨RX0, "isRung", "(I)Z"⟩
abbrev cX0_stepAt : ByteArray := prog_1_method_32_code
def yX0_stepAt : MethodName := ⟨RX0, "stepAt", "(I)I"⟩
abbrev cX0_stepAbove : ByteArray := prog_1_method_33_code
def yX0_stepAbove : MethodName := ⟨RX0, "stepAbove", "(II)I"⟩
abbrev cX0_nearestRung : ByteArray := prog_1_method_34_code
def yX0_nearestRung : MethodName := ⟨RX0, "nearestRung", "(I)I"⟩
abbrev cX0_rungNotAbove : ByteArray := prog_1_method_35_code
def yX0_rungNotAbove : MethodName := ⟨RX0, "rungNotAbove", "(I)I"⟩
abbrev cX0_rungAbove : ByteArray := prog_1_method_36_code
def yX0_rungAbove : MethodName := ⟨RX0, "rungAbove", "(I)I"⟩
abbrev cX0_nearestSemitone : ByteArray := prog_1_method_37_code
def yX0_nearestSemitone : MethodName := ⟨RX0, "nearestSemitone", "(I)I"⟩
abbrev cX0_framesWithin : ByteArray := prog_1_method_38_code
def yX0_framesWithin : MethodName := ⟨RX0, "framesWithin", "(II)I"⟩
abbrev cX0_areInOctaves : ByteArray := prog_1_method_39_code
def yX0_areInOctaves : MethodName := ⟨RX0, "areInOctaves", "(II)Z"⟩
def RX1 : String := "TunedWrensModel"
def TX1 : u_T := fun k => match k with
  | _ => ("", "", "", false)
def tyX1 : Nat → FieldType := fun k => match k with
  | _ => .int
abbrev wsX10 : List Cond := u_ws RX1 TX1 0
theorem nmX1 : ∀ a, a < 0 → ∀ b, b < 0 → a ≠ b → (TX1 a).2.1 ≠ (TX1 b).2.1 := by decide +kernel
theorem tyX1_ok : ∀ k, k < 0 → parseFieldDescriptor (TX1 k).2.2.1 = some (tyX1 k) := by decide +kernel
def RJ9 : String := "java/lang/Math"
def TJ9 : u_T := fun k => match k with
  | _ => ("", "", "", false)
def tyJ9 : Nat → FieldType := fun k => match k with
  | _ => .int
abbrev wsJ90 : List Cond := u_ws RJ9 TJ9 0
theorem nmJ9 : ∀ a, a < 0 → ∀ b, b < 0 → a ≠ b → (TJ9 a).2.1 ≠ (TJ9 b).2.1 := by decide +kernel
theorem tyJ9_ok : ∀ k, k < 0 → parseFieldDescriptor (TJ9 k).2.2.1 = some (tyJ9 k) := by decide +kernel
abbrev cJ9_floorDiv_7cf53 : ByteArray := prog_7_method_47_code
def yJ9_floorDiv_7cf53 : MethodName := ⟨RJ9, "floorDiv", "(II)I"⟩
abbrev cJ9_floorMod_7cf53 : ByteArray := prog_7_method_50_code
def yJ9_floorMod_7cf53 : MethodName := ⟨RJ9, "floorMod", "(II)I"⟩
abbrev cJ9_abs_0f7a4 : ByteArray := prog_7_method_59_code
def yJ9_abs_0f7a4 : MethodName := ⟨RJ9, "abs", "(I)I"⟩
abbrev cJ9_max_7cf53 : ByteArray := prog_7_method_65_code
def yJ9_max_7cf53 : MethodName := ⟨RJ9, "max", "(II)I"⟩
abbrev cJ9_min_7cf53 : ByteArray := prog_7_method_69_code
def yJ9_min_7cf53 : MethodName := ⟨RJ9, "min", "(II)I"⟩
def RJ0 : String := "java/lang/String"
def TJ0 : u_T := fun k => match k with
  | _ => ("", "", "", false)
def tyJ0 : Nat → FieldType := fun k => match k with
  | _ => .int
abbrev wsJ00 : List Cond := u_ws RJ0 TJ0 0
theorem nmJ0 : ∀ a, a < 0 → ∀ b, b < 0 → a ≠ b → (TJ0 a).2.1 ≠ (TJ0 b).2.1 := by decide +kernel
theorem tyJ0_ok : ∀ k, k < 0 → parseFieldDescriptor (TJ0 k).2.2.1 = some (tyJ0 k) := by decide +kernel
def RL : String := "TunedWrensLaw"
abbrev cL_cell : ByteArray := method_2_code
def yL_cell : MethodName := ⟨RL, "cell", "([II)I"⟩
abbrev cL_low : ByteArray := method_3_code
def yL_low : MethodName := ⟨RL, "low", "(II)I"⟩
abbrev cL_sing : ByteArray := method_4_code
def yL_sing : MethodName := ⟨RL, "sing", "(LTunedWrens;II)I"⟩
abbrev cL_slide : ByteArray := method_5_code
def yL_slide : MethodName := ⟨RL, "slide", "(LTunedWrens;IIII)I"⟩
abbrev cL_rest : ByteArray := method_6_code
def yL_rest : MethodName := ⟨RL, "rest", "(LTunedWrens;I)I"⟩
abbrev cL_scale : ByteArray := method_7_code
def yL_scale : MethodName := ⟨RL, "scale", "(LTunedWrens;II)I"⟩
abbrev cL_nudge : ByteArray := method_8_code
def yL_nudge : MethodName := ⟨RL, "nudge", "(LTunedWrens;III)Z"⟩
abbrev cL_act : ByteArray := method_9_code
def yL_act : MethodName := ⟨RL, "act", "(LTunedWrens;I)I"⟩
abbrev cL_areAlike : ByteArray := method_10_code
def yL_areAlike : MethodName := ⟨RL, "areAlike", "(LTunedWrens;LTunedWrens;)Z"⟩
abbrev cL_areWrensSo : ByteArray := method_11_code
def yL_areWrensSo : MethodName := ⟨RL, "areWrensSo", "(LTunedWrens;)Z"⟩
abbrev cL_isScaleSo : ByteArray := method_12_code
def yL_isScaleSo : MethodName := ⟨RL, "isScaleSo", "(LTunedWrens;I)Z"⟩
abbrev cL_areKeysSo : ByteArray := method_13_code
def yL_areKeysSo : MethodName := ⟨RL, "areKeysSo", "(LTunedWrens;I)Z"⟩
abbrev cL_isNudgedSo : ByteArray := method_14_code
def yL_isNudgedSo : MethodName := ⟨RL, "isNudgedSo", "(LTunedWrens;II)Z"⟩
abbrev cL_law : ByteArray := code
def yL_law : MethodName := ⟨RL, "law", "([I)Z"⟩
def wsX0_init : List Cond := .code yX0_init cX0_init 1 none :: ([.methodLink RX0 1 objectInit, .instanceMethod objectInit, .code objectInit ⟨#[0xb1]⟩ 1 none, .arrayClass .int, .fieldLink RX0 9 "TunedWrens" "rungOfWren" "[I", .fieldLink RX0 13 "TunedWrens" "nudgeOfWren" "[I", .fieldLink RX0 16 "TunedWrens" "framesOfWren" "[I", .fieldLink RX0 19 "TunedWrens" "changesOfWren" "[I", .fieldLink RX0 22 "TunedWrens" "leapsOfWren" "[I", .fieldLink RX0 25 "TunedWrens" "cleanOfWren" "[I", .fieldLink RX0 28 "TunedWrens" "framesOfSemitone" "[I", .fieldLink RX0 31 "TunedWrens" "scaleKey" "I", .fieldLink RX0 35 "TunedWrens" "scaleMode" "I", .fieldLink RX0 38 "TunedWrens" "nudgeSpeed" "I", .fieldLink RX0 41 "TunedWrens" "rungLeash" "I", .fieldLink RX0 44 "TunedWrens" "leapGlide" "I"] ++ wsX00)
def wsX0_requireRange : List Cond := .code yX0_requireRange cX0_requireRange 3 none :: ([.classLink RX0 106 "java/lang/IllegalArgumentException", .initialized "java/lang/IllegalArgumentException"] ++ (vx_atS RX0 110 "java/lang/IllegalArgumentException" ["java/lang/RuntimeException", "java/lang/Exception"]).filter goodWord)
def wsJ9_floorMod_7cf53 : List Cond := .code yJ9_floorMod_7cf53 cJ9_floorMod_7cf53 3 (some .int) :: ([])
def wsX0_stepAbove : List Cond := .code yX0_stepAbove cX0_stepAbove 6 (some .int) :: ([.fieldLink RX0 135 "TunedWrens" "STEPS" "[I", .methodLink RX0 132 yJ9_floorMod_7cf53, .static yJ9_floorMod_7cf53, .initialized RJ9, .code yJ9_floorMod_7cf53 cJ9_floorMod_7cf53 3 (some .int)])
def wsX0_stepAt : List Cond := .code yX0_stepAt cX0_stepAt 2 (some .int) :: ([.fieldLink RX0 31 "TunedWrens" "scaleKey" "I", .fieldLink RX0 35 "TunedWrens" "scaleMode" "I", .methodLink RX0 129 yX0_stepAbove, .static yX0_stepAbove, .initialized RX0, .code yX0_stepAbove cX0_stepAbove 6 (some .int), .fieldLink RX0 135 "TunedWrens" "STEPS" "[I", .methodLink RX0 132 yJ9_floorMod_7cf53, .static yJ9_floorMod_7cf53, .initialized RJ9, .code yJ9_floorMod_7cf53 cJ9_floorMod_7cf53 3 (some .int)] ++ wsX00)
def wsX0_isRung : List Cond := .code yX0_isRung cX0_isRung 2 (some .boolean) :: ([.methodLink RX0 82 yX0_stepAt, .instanceMethod yX0_stepAt, .selects RX0 yX0_stepAt yX0_stepAt, .initialized RX0, .code yX0_stepAt cX0_stepAt 2 (some .int), .fieldLink RX0 31 "TunedWrens" "scaleKey" "I", .fieldLink RX0 35 "TunedWrens" "scaleMode" "I", .methodLink RX0 129 yX0_stepAbove, .static yX0_stepAbove, .code yX0_stepAbove cX0_stepAbove 6 (some .int), .fieldLink RX0 135 "TunedWrens" "STEPS" "[I", .methodLink RX0 132 yJ9_floorMod_7cf53, .static yJ9_floorMod_7cf53, .initialized RJ9, .code yJ9_floorMod_7cf53 cJ9_floorMod_7cf53 3 (some .int)] ++ wsX00)
def wsX0_setScale_r1 : List Cond := [Cond.fieldLink RX0 31 "TunedWrens" "scaleKey" "I", Cond.fieldLink RX0 35 "TunedWrens" "scaleMode" "I", Cond.fieldLink RX0 9 "TunedWrens" "rungOfWren" "[I", Cond.methodLink RX0 47 yX0_requireRange, Cond.static yX0_requireRange, Cond.initialized RX0, Cond.code yX0_requireRange cX0_requireRange 3 none, Cond.classLink RX0 106 "java/lang/IllegalArgumentException", Cond.initialized "java/lang/IllegalArgumentException", Cond.methodLink RX0 51 yX0_isRung, Cond.instanceMethod yX0_isRung, Cond.selects RX0 yX0_isRung yX0_isRung, Cond.code yX0_isRung cX0_isRung 2 (some .boolean), Cond.methodLink RX0 82 yX0_stepAt, Cond.instanceMethod yX0_stepAt, Cond.selects RX0 yX0_stepAt yX0_stepAt, Cond.code yX0_stepAt cX0_stepAt 2 (some .int), Cond.methodLink RX0 129 yX0_stepAbove, Cond.static yX0_stepAbove, Cond.code yX0_stepAbove cX0_stepAbove 6 (some .int), Cond.fieldLink RX0 135 "TunedWrens" "STEPS" "[I", Cond.methodLink RX0 132 yJ9_floorMod_7cf53, Cond.static yJ9_floorMod_7cf53, Cond.initialized RJ9]
def wsX0_setScale_r2 : List Cond := [Cond.code yJ9_floorMod_7cf53 cJ9_floorMod_7cf53 3 (some .int)]
def wsX0_setScale : List Cond := .code yX0_setScale cX0_setScale 5 (some .int) :: ((wsX0_setScale_r1 ++ wsX0_setScale_r2) ++ wsX00 ++ (vx_atS RX0 110 "java/lang/IllegalArgumentException" ["java/lang/RuntimeException", "java/lang/Exception"]).filter goodWord)
def wsX0_setNudging : List Cond := .code yX0_setNudging cX0_setNudging 4 none :: ([.fieldLink RX0 38 "TunedWrens" "nudgeSpeed" "I", .fieldLink RX0 41 "TunedWrens" "rungLeash" "I", .fieldLink RX0 44 "TunedWrens" "leapGlide" "I", .methodLink RX0 47 yX0_requireRange, .static yX0_requireRange, .initialized RX0, .code yX0_requireRange cX0_requireRange 3 none, .classLink RX0 106 "java/lang/IllegalArgumentException", .initialized "java/lang/IllegalArgumentException"] ++ wsX00 ++ (vx_atS RX0 110 "java/lang/IllegalArgumentException" ["java/lang/RuntimeException", "java/lang/Exception"]).filter goodWord)
def wsX0_requireWren : List Cond := .code yX0_requireWren cX0_requireWren 1 none :: ([.classLink RX0 75 "java/lang/IndexOutOfBoundsException", .initialized "java/lang/IndexOutOfBoundsException"] ++ (vx_atS RX0 79 "java/lang/IndexOutOfBoundsException" ["java/lang/RuntimeException", "java/lang/Exception"]).filter goodWord)
def wsX0_requirePitch : List Cond := .code yX0_requirePitch cX0_requirePitch 1 none :: ([.methodLink RX0 47 yX0_requireRange, .static yX0_requireRange, .initialized RX0, .code yX0_requireRange cX0_requireRange 3 none, .classLink RX0 106 "java/lang/IllegalArgumentException", .initialized "java/lang/IllegalArgumentException"] ++ (vx_atS RX0 110 "java/lang/IllegalArgumentException" ["java/lang/RuntimeException", "java/lang/Exception"]).filter goodWord)
def wsX0_rungNotAbove : List Cond := .code yX0_rungNotAbove cX0_rungNotAbove 3 (some .int) :: ([.methodLink RX0 82 yX0_stepAt, .instanceMethod yX0_stepAt, .selects RX0 yX0_stepAt yX0_stepAt, .initialized RX0, .code yX0_stepAt cX0_stepAt 2 (some .int), .fieldLink RX0 31 "TunedWrens" "scaleKey" "I", .fieldLink RX0 35 "TunedWrens" "scaleMode" "I", .methodLink RX0 129 yX0_stepAbove, .static yX0_stepAbove, .code yX0_stepAbove cX0_stepAbove 6 (some .int), .fieldLink RX0 135 "TunedWrens" "STEPS" "[I", .methodLink RX0 132 yJ9_floorMod_7cf53, .static yJ9_floorMod_7cf53, .initialized RJ9, .code yJ9_floorMod_7cf53 cJ9_floorMod_7cf53 3 (some .int)] ++ wsX00)
def wsX0_rungAbove : List Cond := .code yX0_rungAbove cX0_rungAbove 3 (some .int) :: ([.methodLink RX0 82 yX0_stepAt, .instanceMethod yX0_stepAt, .selects RX0 yX0_stepAt yX0_stepAt, .initialized RX0, .code yX0_stepAt cX0_stepAt 2 (some .int), .fieldLink RX0 31 "TunedWrens" "scaleKey" "I", .fieldLink RX0 35 "TunedWrens" "scaleMode" "I", .methodLink RX0 129 yX0_stepAbove, .static yX0_stepAbove, .code yX0_stepAbove cX0_stepAbove 6 (some .int), .fieldLink RX0 135 "TunedWrens" "STEPS" "[I", .methodLink RX0 132 yJ9_floorMod_7cf53, .static yJ9_floorMod_7cf53, .initialized RJ9, .code yJ9_floorMod_7cf53 cJ9_floorMod_7cf53 3 (some .int)] ++ wsX00)
def wsX0_nearestRung : List Cond := .code yX0_nearestRung cX0_nearestRung 4 (some .int) :: ([.methodLink RX0 138 yX0_rungNotAbove, .instanceMethod yX0_rungNotAbove, .selects RX0 yX0_rungNotAbove yX0_rungNotAbove, .initialized RX0, .code yX0_rungNotAbove cX0_rungNotAbove 3 (some .int), .methodLink RX0 82 yX0_stepAt, .instanceMethod yX0_stepAt, .selects RX0 yX0_stepAt yX0_stepAt, .code yX0_stepAt cX0_stepAt 2 (some .int), .fieldLink RX0 31 "TunedWrens" "scaleKey" "I", .fieldLink RX0 35 "TunedWrens" "scaleMode" "I", .methodLink RX0 129 yX0_stepAbove, .static yX0_stepAbove, .code yX0_stepAbove cX0_stepAbove 6 (some .int), .fieldLink RX0 135 "TunedWrens" "STEPS" "[I", .methodLink RX0 132 yJ9_floorMod_7cf53, .static yJ9_floorMod_7cf53, .initialized RJ9, .code yJ9_floorMod_7cf53 cJ9_floorMod_7cf53 3 (some .int), .methodLink RX0 141 yX0_rungAbove, .instanceMethod yX0_rungAbove, .selects RX0 yX0_rungAbove yX0_rungAbove, .code yX0_rungAbove cX0_rungAbove 3 (some .int)] ++ wsX00)
def wsX0_nextRung_r1 : List Cond := [Cond.methodLink RX0 120 Lib.Math.abs.name, Cond.static Lib.Math.abs.name, Cond.initialized "java/lang/Math", Cond.code Lib.Math.abs.name Lib.Math.abs.code 1 (some .int), Cond.fieldLink RX0 41 "TunedWrens" "rungLeash" "I", Cond.methodLink RX0 71 yX0_nearestRung, Cond.instanceMethod yX0_nearestRung, Cond.selects RX0 yX0_nearestRung yX0_nearestRung, Cond.initialized RX0, Cond.code yX0_nearestRung cX0_nearestRung 4 (some .int), Cond.methodLink RX0 138 yX0_rungNotAbove, Cond.instanceMethod yX0_rungNotAbove, Cond.selects RX0 yX0_rungNotAbove yX0_rungNotAbove, Cond.code yX0_rungNotAbove cX0_rungNotAbove 3 (some .int), Cond.methodLink RX0 82 yX0_stepAt, Cond.instanceMethod yX0_stepAt, Cond.selects RX0 yX0_stepAt yX0_stepAt, Cond.code yX0_stepAt cX0_stepAt 2 (some .int), Cond.fieldLink RX0 31 "TunedWrens" "scaleKey" "I", Cond.fieldLink RX0 35 "TunedWrens" "scaleMode" "I", Cond.methodLink RX0 129 yX0_stepAbove, Cond.static yX0_stepAbove, Cond.code yX0_stepAbove cX0_stepAbove 6 (some .int), Cond.fieldLink RX0 135 "TunedWrens" "STEPS" "[I"]
def wsX0_nextRung_r2 : List Cond := [Cond.methodLink RX0 132 yJ9_floorMod_7cf53, Cond.static yJ9_floorMod_7cf53, Cond.initialized RJ9, Cond.code yJ9_floorMod_7cf53 cJ9_floorMod_7cf53 3 (some .int), Cond.methodLink RX0 141 yX0_rungAbove, Cond.instanceMethod yX0_rungAbove, Cond.selects RX0 yX0_rungAbove yX0_rungAbove, Cond.code yX0_rungAbove cX0_rungAbove 3 (some .int)]
def wsX0_nextRung : List Cond := .code yX0_nextRung cX0_nextRung 3 (some .int) :: ((wsX0_nextRung_r1 ++ wsX0_nextRung_r2) ++ wsX00)
def wsX0_isChange : List Cond := .code yX0_isChange cX0_isChange 2 (some .boolean) :: ([])
def wsX0_isLeap : List Cond := .code yX0_isLeap cX0_isLeap 3 (some .boolean) :: ([.methodLink RX0 120 Lib.Math.abs.name, .static Lib.Math.abs.name, .initialized "java/lang/Math", .code Lib.Math.abs.name Lib.Math.abs.code 1 (some .int), .fieldLink RX0 44 "TunedWrens" "leapGlide" "I", .methodLink RX0 111 yX0_isChange, .static yX0_isChange, .initialized RX0, .code yX0_isChange cX0_isChange 2 (some .boolean)] ++ wsX00)
def wsX0_nudgeTowards : List Cond := .code yX0_nudgeTowards cX0_nudgeTowards 5 (some .int) :: ([.fieldLink RX0 38 "TunedWrens" "nudgeSpeed" "I", .methodLink RX0 123 Lib.Math.min.name, .static Lib.Math.min.name, .initialized "java/lang/Math", .code Lib.Math.min.name Lib.Math.min.code 2 (some .int), .methodLink RX0 126 Lib.Math.max.name, .static Lib.Math.max.name, .code Lib.Math.max.name Lib.Math.max.code 2 (some .int)] ++ wsX00)
def wsX0_nextNudge_r1 : List Cond := [Cond.fieldLink RX0 9 "TunedWrens" "rungOfWren" "[I", Cond.fieldLink RX0 13 "TunedWrens" "nudgeOfWren" "[I", Cond.methodLink RX0 114 yX0_isLeap, Cond.instanceMethod yX0_isLeap, Cond.selects RX0 yX0_isLeap yX0_isLeap, Cond.initialized RX0, Cond.code yX0_isLeap cX0_isLeap 3 (some .boolean), Cond.methodLink RX0 120 Lib.Math.abs.name, Cond.static Lib.Math.abs.name, Cond.initialized "java/lang/Math", Cond.code Lib.Math.abs.name Lib.Math.abs.code 1 (some .int), Cond.fieldLink RX0 44 "TunedWrens" "leapGlide" "I", Cond.methodLink RX0 111 yX0_isChange, Cond.static yX0_isChange, Cond.code yX0_isChange cX0_isChange 2 (some .boolean), Cond.methodLink RX0 92 yX0_nudgeTowards, Cond.instanceMethod yX0_nudgeTowards, Cond.selects RX0 yX0_nudgeTowards yX0_nudgeTowards, Cond.code yX0_nudgeTowards cX0_nudgeTowards 5 (some .int), Cond.fieldLink RX0 38 "TunedWrens" "nudgeSpeed" "I", Cond.methodLink RX0 123 Lib.Math.min.name, Cond.static Lib.Math.min.name, Cond.code Lib.Math.min.name Lib.Math.min.code 2 (some .int), Cond.methodLink RX0 126 Lib.Math.max.name]
def wsX0_nextNudge_r2 : List Cond := [Cond.static Lib.Math.max.name, Cond.code Lib.Math.max.name Lib.Math.max.code 2 (some .int)]
def wsX0_nextNudge : List Cond := .code yX0_nextNudge cX0_nextNudge 4 (some .int) :: ((wsX0_nextNudge_r1 ++ wsX0_nextNudge_r2) ++ wsX00)
def wsX0_nearestSemitone : List Cond := .code yX0_nearestSemitone cX0_nearestSemitone 1 (some .int) :: ([.methodLink RX0 132 yJ9_floorMod_7cf53, .static yJ9_floorMod_7cf53, .initialized RJ9, .code yJ9_floorMod_7cf53 cJ9_floorMod_7cf53 3 (some .int)])
def wsX0_singFrame_r1 : List Cond := [Cond.fieldLink RX0 9 "TunedWrens" "rungOfWren" "[I", Cond.fieldLink RX0 13 "TunedWrens" "nudgeOfWren" "[I", Cond.fieldLink RX0 16 "TunedWrens" "framesOfWren" "[I", Cond.fieldLink RX0 19 "TunedWrens" "changesOfWren" "[I", Cond.fieldLink RX0 22 "TunedWrens" "leapsOfWren" "[I", Cond.fieldLink RX0 25 "TunedWrens" "cleanOfWren" "[I", Cond.fieldLink RX0 28 "TunedWrens" "framesOfSemitone" "[I", Cond.methodLink RX0 85 yX0_nextRung, Cond.instanceMethod yX0_nextRung, Cond.selects RX0 yX0_nextRung yX0_nextRung, Cond.initialized RX0, Cond.code yX0_nextRung cX0_nextRung 3 (some .int), Cond.methodLink RX0 120 Lib.Math.abs.name, Cond.static Lib.Math.abs.name, Cond.initialized "java/lang/Math", Cond.code Lib.Math.abs.name Lib.Math.abs.code 1 (some .int), Cond.fieldLink RX0 41 "TunedWrens" "rungLeash" "I", Cond.methodLink RX0 71 yX0_nearestRung, Cond.instanceMethod yX0_nearestRung, Cond.selects RX0 yX0_nearestRung yX0_nearestRung, Cond.code yX0_nearestRung cX0_nearestRung 4 (some .int), Cond.methodLink RX0 138 yX0_rungNotAbove, Cond.instanceMethod yX0_rungNotAbove, Cond.selects RX0 yX0_rungNotAbove yX0_rungNotAbove]
def wsX0_singFrame_r2 : List Cond := [Cond.code yX0_rungNotAbove cX0_rungNotAbove 3 (some .int), Cond.methodLink RX0 82 yX0_stepAt, Cond.instanceMethod yX0_stepAt, Cond.selects RX0 yX0_stepAt yX0_stepAt, Cond.code yX0_stepAt cX0_stepAt 2 (some .int), Cond.fieldLink RX0 31 "TunedWrens" "scaleKey" "I", Cond.fieldLink RX0 35 "TunedWrens" "scaleMode" "I", Cond.methodLink RX0 129 yX0_stepAbove, Cond.static yX0_stepAbove, Cond.code yX0_stepAbove cX0_stepAbove 6 (some .int), Cond.fieldLink RX0 135 "TunedWrens" "STEPS" "[I", Cond.methodLink RX0 132 yJ9_floorMod_7cf53, Cond.static yJ9_floorMod_7cf53, Cond.initialized RJ9, Cond.code yJ9_floorMod_7cf53 cJ9_floorMod_7cf53 3 (some .int), Cond.methodLink RX0 141 yX0_rungAbove, Cond.instanceMethod yX0_rungAbove, Cond.selects RX0 yX0_rungAbove yX0_rungAbove, Cond.code yX0_rungAbove cX0_rungAbove 3 (some .int), Cond.methodLink RX0 88 yX0_nextNudge, Cond.instanceMethod yX0_nextNudge, Cond.selects RX0 yX0_nextNudge yX0_nextNudge, Cond.code yX0_nextNudge cX0_nextNudge 4 (some .int), Cond.methodLink RX0 114 yX0_isLeap]
def wsX0_singFrame_r3 : List Cond := [Cond.instanceMethod yX0_isLeap, Cond.selects RX0 yX0_isLeap yX0_isLeap, Cond.code yX0_isLeap cX0_isLeap 3 (some .boolean), Cond.fieldLink RX0 44 "TunedWrens" "leapGlide" "I", Cond.methodLink RX0 111 yX0_isChange, Cond.static yX0_isChange, Cond.code yX0_isChange cX0_isChange 2 (some .boolean), Cond.methodLink RX0 92 yX0_nudgeTowards, Cond.instanceMethod yX0_nudgeTowards, Cond.selects RX0 yX0_nudgeTowards yX0_nudgeTowards, Cond.code yX0_nudgeTowards cX0_nudgeTowards 5 (some .int), Cond.fieldLink RX0 38 "TunedWrens" "nudgeSpeed" "I", Cond.methodLink RX0 123 Lib.Math.min.name, Cond.static Lib.Math.min.name, Cond.code Lib.Math.min.name Lib.Math.min.code 2 (some .int), Cond.methodLink RX0 126 Lib.Math.max.name, Cond.static Lib.Math.max.name, Cond.code Lib.Math.max.name Lib.Math.max.code 2 (some .int), Cond.methodLink RX0 51 yX0_isRung, Cond.instanceMethod yX0_isRung, Cond.selects RX0 yX0_isRung yX0_isRung, Cond.code yX0_isRung cX0_isRung 2 (some .boolean), Cond.methodLink RX0 117 yX0_nearestSemitone, Cond.static yX0_nearestSemitone]
def wsX0_singFrame_r4 : List Cond := [Cond.code yX0_nearestSemitone cX0_nearestSemitone 1 (some .int)]
def wsX0_singFrame : List Cond := .code yX0_singFrame cX0_singFrame 7 (some .int) :: ((wsX0_singFrame_r1 ++ (wsX0_singFrame_r2 ++ (wsX0_singFrame_r3 ++ wsX0_singFrame_r4))) ++ wsX00)
def wsX0_sing_r1 : List Cond := [Cond.methodLink RX0 55 yX0_requireWren, Cond.static yX0_requireWren, Cond.initialized RX0, Cond.code yX0_requireWren cX0_requireWren 1 none, Cond.classLink RX0 75 "java/lang/IndexOutOfBoundsException", Cond.initialized "java/lang/IndexOutOfBoundsException", Cond.methodLink RX0 59 yX0_requirePitch, Cond.static yX0_requirePitch, Cond.code yX0_requirePitch cX0_requirePitch 1 none, Cond.methodLink RX0 47 yX0_requireRange, Cond.static yX0_requireRange, Cond.code yX0_requireRange cX0_requireRange 3 none, Cond.classLink RX0 106 "java/lang/IllegalArgumentException", Cond.initialized "java/lang/IllegalArgumentException", Cond.methodLink RX0 62 yX0_singFrame, Cond.instanceMethod yX0_singFrame, Cond.selects RX0 yX0_singFrame yX0_singFrame, Cond.code yX0_singFrame cX0_singFrame 7 (some .int), Cond.fieldLink RX0 9 "TunedWrens" "rungOfWren" "[I", Cond.fieldLink RX0 13 "TunedWrens" "nudgeOfWren" "[I", Cond.fieldLink RX0 16 "TunedWrens" "framesOfWren" "[I", Cond.fieldLink RX0 19 "TunedWrens" "changesOfWren" "[I", Cond.fieldLink RX0 22 "TunedWrens" "leapsOfWren" "[I", Cond.fieldLink RX0 25 "TunedWrens" "cleanOfWren" "[I"]
def wsX0_sing_r2 : List Cond := [Cond.fieldLink RX0 28 "TunedWrens" "framesOfSemitone" "[I", Cond.methodLink RX0 85 yX0_nextRung, Cond.instanceMethod yX0_nextRung, Cond.selects RX0 yX0_nextRung yX0_nextRung, Cond.code yX0_nextRung cX0_nextRung 3 (some .int), Cond.methodLink RX0 120 Lib.Math.abs.name, Cond.static Lib.Math.abs.name, Cond.initialized "java/lang/Math", Cond.code Lib.Math.abs.name Lib.Math.abs.code 1 (some .int), Cond.fieldLink RX0 41 "TunedWrens" "rungLeash" "I", Cond.methodLink RX0 71 yX0_nearestRung, Cond.instanceMethod yX0_nearestRung, Cond.selects RX0 yX0_nearestRung yX0_nearestRung, Cond.code yX0_nearestRung cX0_nearestRung 4 (some .int), Cond.methodLink RX0 138 yX0_rungNotAbove, Cond.instanceMethod yX0_rungNotAbove, Cond.selects RX0 yX0_rungNotAbove yX0_rungNotAbove, Cond.code yX0_rungNotAbove cX0_rungNotAbove 3 (some .int), Cond.methodLink RX0 82 yX0_stepAt, Cond.instanceMethod yX0_stepAt, Cond.selects RX0 yX0_stepAt yX0_stepAt, Cond.code yX0_stepAt cX0_stepAt 2 (some .int), Cond.fieldLink RX0 31 "TunedWrens" "scaleKey" "I", Cond.fieldLink RX0 35 "TunedWrens" "scaleMode" "I"]
def wsX0_sing_r3 : List Cond := [Cond.methodLink RX0 129 yX0_stepAbove, Cond.static yX0_stepAbove, Cond.code yX0_stepAbove cX0_stepAbove 6 (some .int), Cond.fieldLink RX0 135 "TunedWrens" "STEPS" "[I", Cond.methodLink RX0 132 yJ9_floorMod_7cf53, Cond.static yJ9_floorMod_7cf53, Cond.initialized RJ9, Cond.code yJ9_floorMod_7cf53 cJ9_floorMod_7cf53 3 (some .int), Cond.methodLink RX0 141 yX0_rungAbove, Cond.instanceMethod yX0_rungAbove, Cond.selects RX0 yX0_rungAbove yX0_rungAbove, Cond.code yX0_rungAbove cX0_rungAbove 3 (some .int), Cond.methodLink RX0 88 yX0_nextNudge, Cond.instanceMethod yX0_nextNudge, Cond.selects RX0 yX0_nextNudge yX0_nextNudge, Cond.code yX0_nextNudge cX0_nextNudge 4 (some .int), Cond.methodLink RX0 114 yX0_isLeap, Cond.instanceMethod yX0_isLeap, Cond.selects RX0 yX0_isLeap yX0_isLeap, Cond.code yX0_isLeap cX0_isLeap 3 (some .boolean), Cond.fieldLink RX0 44 "TunedWrens" "leapGlide" "I", Cond.methodLink RX0 111 yX0_isChange, Cond.static yX0_isChange, Cond.code yX0_isChange cX0_isChange 2 (some .boolean)]
def wsX0_sing_r4 : List Cond := [Cond.methodLink RX0 92 yX0_nudgeTowards, Cond.instanceMethod yX0_nudgeTowards, Cond.selects RX0 yX0_nudgeTowards yX0_nudgeTowards, Cond.code yX0_nudgeTowards cX0_nudgeTowards 5 (some .int), Cond.fieldLink RX0 38 "TunedWrens" "nudgeSpeed" "I", Cond.methodLink RX0 123 Lib.Math.min.name, Cond.static Lib.Math.min.name, Cond.code Lib.Math.min.name Lib.Math.min.code 2 (some .int), Cond.methodLink RX0 126 Lib.Math.max.name, Cond.static Lib.Math.max.name, Cond.code Lib.Math.max.name Lib.Math.max.code 2 (some .int), Cond.methodLink RX0 51 yX0_isRung, Cond.instanceMethod yX0_isRung, Cond.selects RX0 yX0_isRung yX0_isRung, Cond.code yX0_isRung cX0_isRung 2 (some .boolean), Cond.methodLink RX0 117 yX0_nearestSemitone, Cond.static yX0_nearestSemitone, Cond.code yX0_nearestSemitone cX0_nearestSemitone 1 (some .int)]
def wsX0_sing : List Cond := .code yX0_sing cX0_sing 3 (some .int) :: ((wsX0_sing_r1 ++ (wsX0_sing_r2 ++ (wsX0_sing_r3 ++ wsX0_sing_r4))) ++ wsX00 ++ (vx_atS RX0 79 "java/lang/IndexOutOfBoundsException" ["java/lang/RuntimeException", "java/lang/Exception"]).filter goodWord ++ (vx_atS RX0 110 "java/lang/IllegalArgumentException" ["java/lang/RuntimeException", "java/lang/Exception"]).filter goodWord)
def wsJ9_floorDiv_7cf53 : List Cond := .code yJ9_floorDiv_7cf53 cJ9_floorDiv_7cf53 3 (some .int) :: ([])
def wsX0_slide_r1 : List Cond := [Cond.fieldLink RX0 19 "TunedWrens" "changesOfWren" "[I", Cond.methodLink RX0 55 yX0_requireWren, Cond.static yX0_requireWren, Cond.initialized RX0, Cond.code yX0_requireWren cX0_requireWren 1 none, Cond.classLink RX0 75 "java/lang/IndexOutOfBoundsException", Cond.initialized "java/lang/IndexOutOfBoundsException", Cond.methodLink RX0 59 yX0_requirePitch, Cond.static yX0_requirePitch, Cond.code yX0_requirePitch cX0_requirePitch 1 none, Cond.methodLink RX0 47 yX0_requireRange, Cond.static yX0_requireRange, Cond.code yX0_requireRange cX0_requireRange 3 none, Cond.classLink RX0 106 "java/lang/IllegalArgumentException", Cond.initialized "java/lang/IllegalArgumentException", Cond.methodLink RX0 66 yJ9_floorDiv_7cf53, Cond.static yJ9_floorDiv_7cf53, Cond.initialized RJ9, Cond.code yJ9_floorDiv_7cf53 cJ9_floorDiv_7cf53 3 (some .int), Cond.methodLink RX0 62 yX0_singFrame, Cond.instanceMethod yX0_singFrame, Cond.selects RX0 yX0_singFrame yX0_singFrame, Cond.code yX0_singFrame cX0_singFrame 7 (some .int), Cond.fieldLink RX0 9 "TunedWrens" "rungOfWren" "[I"]
def wsX0_slide_r2 : List Cond := [Cond.fieldLink RX0 13 "TunedWrens" "nudgeOfWren" "[I", Cond.fieldLink RX0 16 "TunedWrens" "framesOfWren" "[I", Cond.fieldLink RX0 22 "TunedWrens" "leapsOfWren" "[I", Cond.fieldLink RX0 25 "TunedWrens" "cleanOfWren" "[I", Cond.fieldLink RX0 28 "TunedWrens" "framesOfSemitone" "[I", Cond.methodLink RX0 85 yX0_nextRung, Cond.instanceMethod yX0_nextRung, Cond.selects RX0 yX0_nextRung yX0_nextRung, Cond.code yX0_nextRung cX0_nextRung 3 (some .int), Cond.methodLink RX0 120 Lib.Math.abs.name, Cond.static Lib.Math.abs.name, Cond.initialized "java/lang/Math", Cond.code Lib.Math.abs.name Lib.Math.abs.code 1 (some .int), Cond.fieldLink RX0 41 "TunedWrens" "rungLeash" "I", Cond.methodLink RX0 71 yX0_nearestRung, Cond.instanceMethod yX0_nearestRung, Cond.selects RX0 yX0_nearestRung yX0_nearestRung, Cond.code yX0_nearestRung cX0_nearestRung 4 (some .int), Cond.methodLink RX0 138 yX0_rungNotAbove, Cond.instanceMethod yX0_rungNotAbove, Cond.selects RX0 yX0_rungNotAbove yX0_rungNotAbove, Cond.code yX0_rungNotAbove cX0_rungNotAbove 3 (some .int), Cond.methodLink RX0 82 yX0_stepAt, Cond.instanceMethod yX0_stepAt]
def wsX0_slide_r3 : List Cond := [Cond.selects RX0 yX0_stepAt yX0_stepAt, Cond.code yX0_stepAt cX0_stepAt 2 (some .int), Cond.fieldLink RX0 31 "TunedWrens" "scaleKey" "I", Cond.fieldLink RX0 35 "TunedWrens" "scaleMode" "I", Cond.methodLink RX0 129 yX0_stepAbove, Cond.static yX0_stepAbove, Cond.code yX0_stepAbove cX0_stepAbove 6 (some .int), Cond.fieldLink RX0 135 "TunedWrens" "STEPS" "[I", Cond.methodLink RX0 132 yJ9_floorMod_7cf53, Cond.static yJ9_floorMod_7cf53, Cond.code yJ9_floorMod_7cf53 cJ9_floorMod_7cf53 3 (some .int), Cond.methodLink RX0 141 yX0_rungAbove, Cond.instanceMethod yX0_rungAbove, Cond.selects RX0 yX0_rungAbove yX0_rungAbove, Cond.code yX0_rungAbove cX0_rungAbove 3 (some .int), Cond.methodLink RX0 88 yX0_nextNudge, Cond.instanceMethod yX0_nextNudge, Cond.selects RX0 yX0_nextNudge yX0_nextNudge, Cond.code yX0_nextNudge cX0_nextNudge 4 (some .int), Cond.methodLink RX0 114 yX0_isLeap, Cond.instanceMethod yX0_isLeap, Cond.selects RX0 yX0_isLeap yX0_isLeap, Cond.code yX0_isLeap cX0_isLeap 3 (some .boolean), Cond.fieldLink RX0 44 "TunedWrens" "leapGlide" "I"]
def wsX0_slide_r4 : List Cond := [Cond.methodLink RX0 111 yX0_isChange, Cond.static yX0_isChange, Cond.code yX0_isChange cX0_isChange 2 (some .boolean), Cond.methodLink RX0 92 yX0_nudgeTowards, Cond.instanceMethod yX0_nudgeTowards, Cond.selects RX0 yX0_nudgeTowards yX0_nudgeTowards, Cond.code yX0_nudgeTowards cX0_nudgeTowards 5 (some .int), Cond.fieldLink RX0 38 "TunedWrens" "nudgeSpeed" "I", Cond.methodLink RX0 123 Lib.Math.min.name, Cond.static Lib.Math.min.name, Cond.code Lib.Math.min.name Lib.Math.min.code 2 (some .int), Cond.methodLink RX0 126 Lib.Math.max.name, Cond.static Lib.Math.max.name, Cond.code Lib.Math.max.name Lib.Math.max.code 2 (some .int), Cond.methodLink RX0 51 yX0_isRung, Cond.instanceMethod yX0_isRung, Cond.selects RX0 yX0_isRung yX0_isRung, Cond.code yX0_isRung cX0_isRung 2 (some .boolean), Cond.methodLink RX0 117 yX0_nearestSemitone, Cond.static yX0_nearestSemitone, Cond.code yX0_nearestSemitone cX0_nearestSemitone 1 (some .int)]
def wsX0_slide : List Cond := .code yX0_slide cX0_slide 7 (some .int) :: ((wsX0_slide_r1 ++ (wsX0_slide_r2 ++ (wsX0_slide_r3 ++ wsX0_slide_r4))) ++ wsX00 ++ (vx_atS RX0 79 "java/lang/IndexOutOfBoundsException" ["java/lang/RuntimeException", "java/lang/Exception"]).filter goodWord ++ (vx_atS RX0 110 "java/lang/IllegalArgumentException" ["java/lang/RuntimeException", "java/lang/Exception"]).filter goodWord)
def wsX0_rest : List Cond := .code yX0_rest cX0_rest 3 (some .int) :: ([.fieldLink RX0 9 "TunedWrens" "rungOfWren" "[I", .fieldLink RX0 13 "TunedWrens" "nudgeOfWren" "[I", .methodLink RX0 55 yX0_requireWren, .static yX0_requireWren, .initialized RX0, .code yX0_requireWren cX0_requireWren 1 none, .classLink RX0 75 "java/lang/IndexOutOfBoundsException", .initialized "java/lang/IndexOutOfBoundsException"] ++ wsX00 ++ (vx_atS RX0 79 "java/lang/IndexOutOfBoundsException" ["java/lang/RuntimeException", "java/lang/Exception"]).filter goodWord)
def wsX0_rungs : List Cond := .code yX0_rungs cX0_rungs 3 (some .int) :: ([.methodLink RX0 51 yX0_isRung, .instanceMethod yX0_isRung, .selects RX0 yX0_isRung yX0_isRung, .initialized RX0, .code yX0_isRung cX0_isRung 2 (some .boolean), .methodLink RX0 82 yX0_stepAt, .instanceMethod yX0_stepAt, .selects RX0 yX0_stepAt yX0_stepAt, .code yX0_stepAt cX0_stepAt 2 (some .int), .fieldLink RX0 31 "TunedWrens" "scaleKey" "I", .fieldLink RX0 35 "TunedWrens" "scaleMode" "I", .methodLink RX0 129 yX0_stepAbove, .static yX0_stepAbove, .code yX0_stepAbove cX0_stepAbove 6 (some .int), .fieldLink RX0 135 "TunedWrens" "STEPS" "[I", .methodLink RX0 132 yJ9_floorMod_7cf53, .static yJ9_floorMod_7cf53, .initialized RJ9, .code yJ9_floorMod_7cf53 cJ9_floorMod_7cf53 3 (some .int)] ++ wsX00)
def wsX0_nearest_r1 : List Cond := [Cond.methodLink RX0 59 yX0_requirePitch, Cond.static yX0_requirePitch, Cond.initialized RX0, Cond.code yX0_requirePitch cX0_requirePitch 1 none, Cond.methodLink RX0 47 yX0_requireRange, Cond.static yX0_requireRange, Cond.code yX0_requireRange cX0_requireRange 3 none, Cond.classLink RX0 106 "java/lang/IllegalArgumentException", Cond.initialized "java/lang/IllegalArgumentException", Cond.methodLink RX0 71 yX0_nearestRung, Cond.instanceMethod yX0_nearestRung, Cond.selects RX0 yX0_nearestRung yX0_nearestRung, Cond.code yX0_nearestRung cX0_nearestRung 4 (some .int), Cond.methodLink RX0 138 yX0_rungNotAbove, Cond.instanceMethod yX0_rungNotAbove, Cond.selects RX0 yX0_rungNotAbove yX0_rungNotAbove, Cond.code yX0_rungNotAbove cX0_rungNotAbove 3 (some .int), Cond.methodLink RX0 82 yX0_stepAt, Cond.instanceMethod yX0_stepAt, Cond.selects RX0 yX0_stepAt yX0_stepAt, Cond.code yX0_stepAt cX0_stepAt 2 (some .int), Cond.fieldLink RX0 31 "TunedWrens" "scaleKey" "I", Cond.fieldLink RX0 35 "TunedWrens" "scaleMode" "I", Cond.methodLink RX0 129 yX0_stepAbove]
def wsX0_nearest_r2 : List Cond := [Cond.static yX0_stepAbove, Cond.code yX0_stepAbove cX0_stepAbove 6 (some .int), Cond.fieldLink RX0 135 "TunedWrens" "STEPS" "[I", Cond.methodLink RX0 132 yJ9_floorMod_7cf53, Cond.static yJ9_floorMod_7cf53, Cond.initialized RJ9, Cond.code yJ9_floorMod_7cf53 cJ9_floorMod_7cf53 3 (some .int), Cond.methodLink RX0 141 yX0_rungAbove, Cond.instanceMethod yX0_rungAbove, Cond.selects RX0 yX0_rungAbove yX0_rungAbove, Cond.code yX0_rungAbove cX0_rungAbove 3 (some .int)]
def wsX0_nearest : List Cond := .code yX0_nearest cX0_nearest 2 (some .int) :: ((wsX0_nearest_r1 ++ wsX0_nearest_r2) ++ wsX00 ++ (vx_atS RX0 110 "java/lang/IllegalArgumentException" ["java/lang/RuntimeException", "java/lang/Exception"]).filter goodWord)
def wsX0_rung : List Cond := .code yX0_rung cX0_rung 4 (some .int) :: ([.classLink RX0 75 "java/lang/IndexOutOfBoundsException", .initialized "java/lang/IndexOutOfBoundsException", .methodLink RX0 51 yX0_isRung, .instanceMethod yX0_isRung, .selects RX0 yX0_isRung yX0_isRung, .initialized RX0, .code yX0_isRung cX0_isRung 2 (some .boolean), .methodLink RX0 82 yX0_stepAt, .instanceMethod yX0_stepAt, .selects RX0 yX0_stepAt yX0_stepAt, .code yX0_stepAt cX0_stepAt 2 (some .int), .fieldLink RX0 31 "TunedWrens" "scaleKey" "I", .fieldLink RX0 35 "TunedWrens" "scaleMode" "I", .methodLink RX0 129 yX0_stepAbove, .static yX0_stepAbove, .code yX0_stepAbove cX0_stepAbove 6 (some .int), .fieldLink RX0 135 "TunedWrens" "STEPS" "[I", .methodLink RX0 132 yJ9_floorMod_7cf53, .static yJ9_floorMod_7cf53, .initialized RJ9, .code yJ9_floorMod_7cf53 cJ9_floorMod_7cf53 3 (some .int)] ++ wsX00 ++ (vx_atS RX0 79 "java/lang/IndexOutOfBoundsException" ["java/lang/RuntimeException", "java/lang/Exception"]).filter goodWord)
def wsX0_stepOf : List Cond := .code yX0_stepOf cX0_stepOf 2 (some .int) :: ([.methodLink RX0 59 yX0_requirePitch, .static yX0_requirePitch, .initialized RX0, .code yX0_requirePitch cX0_requirePitch 1 none, .methodLink RX0 47 yX0_requireRange, .static yX0_requireRange, .code yX0_requireRange cX0_requireRange 3 none, .classLink RX0 106 "java/lang/IllegalArgumentException", .initialized "java/lang/IllegalArgumentException", .methodLink RX0 82 yX0_stepAt, .instanceMethod yX0_stepAt, .selects RX0 yX0_stepAt yX0_stepAt, .code yX0_stepAt cX0_stepAt 2 (some .int), .fieldLink RX0 31 "TunedWrens" "scaleKey" "I", .fieldLink RX0 35 "TunedWrens" "scaleMode" "I", .methodLink RX0 129 yX0_stepAbove, .static yX0_stepAbove, .code yX0_stepAbove cX0_stepAbove 6 (some .int), .fieldLink RX0 135 "TunedWrens" "STEPS" "[I", .methodLink RX0 132 yJ9_floorMod_7cf53, .static yJ9_floorMod_7cf53, .initialized RJ9, .code yJ9_floorMod_7cf53 cJ9_floorMod_7cf53 3 (some .int)] ++ wsX00 ++ (vx_atS RX0 110 "java/lang/IllegalArgumentException" ["java/lang/RuntimeException", "java/lang/Exception"]).filter goodWord)
def wsX0_rungOf : List Cond := .code yX0_rungOf cX0_rungOf 2 (some .int) :: ([.fieldLink RX0 9 "TunedWrens" "rungOfWren" "[I", .methodLink RX0 55 yX0_requireWren, .static yX0_requireWren, .initialized RX0, .code yX0_requireWren cX0_requireWren 1 none, .classLink RX0 75 "java/lang/IndexOutOfBoundsException", .initialized "java/lang/IndexOutOfBoundsException"] ++ wsX00 ++ (vx_atS RX0 79 "java/lang/IndexOutOfBoundsException" ["java/lang/RuntimeException", "java/lang/Exception"]).filter goodWord)
def wsX0_nudgeOf : List Cond := .code yX0_nudgeOf cX0_nudgeOf 2 (some .int) :: ([.fieldLink RX0 13 "TunedWrens" "nudgeOfWren" "[I", .methodLink RX0 55 yX0_requireWren, .static yX0_requireWren, .initialized RX0, .code yX0_requireWren cX0_requireWren 1 none, .classLink RX0 75 "java/lang/IndexOutOfBoundsException", .initialized "java/lang/IndexOutOfBoundsException"] ++ wsX00 ++ (vx_atS RX0 79 "java/lang/IndexOutOfBoundsException" ["java/lang/RuntimeException", "java/lang/Exception"]).filter goodWord)
def wsX0_framesOf : List Cond := .code yX0_framesOf cX0_framesOf 2 (some .int) :: ([.fieldLink RX0 16 "TunedWrens" "framesOfWren" "[I", .methodLink RX0 55 yX0_requireWren, .static yX0_requireWren, .initialized RX0, .code yX0_requireWren cX0_requireWren 1 none, .classLink RX0 75 "java/lang/IndexOutOfBoundsException", .initialized "java/lang/IndexOutOfBoundsException"] ++ wsX00 ++ (vx_atS RX0 79 "java/lang/IndexOutOfBoundsException" ["java/lang/RuntimeException", "java/lang/Exception"]).filter goodWord)
def wsX0_changesOf : List Cond := .code yX0_changesOf cX0_changesOf 2 (some .int) :: ([.fieldLink RX0 19 "TunedWrens" "changesOfWren" "[I", .methodLink RX0 55 yX0_requireWren, .static yX0_requireWren, .initialized RX0, .code yX0_requireWren cX0_requireWren 1 none, .classLink RX0 75 "java/lang/IndexOutOfBoundsException", .initialized "java/lang/IndexOutOfBoundsException"] ++ wsX00 ++ (vx_atS RX0 79 "java/lang/IndexOutOfBoundsException" ["java/lang/RuntimeException", "java/lang/Exception"]).filter goodWord)
def wsX0_leapsOf : List Cond := .code yX0_leapsOf cX0_leapsOf 2 (some .int) :: ([.fieldLink RX0 22 "TunedWrens" "leapsOfWren" "[I", .methodLink RX0 55 yX0_requireWren, .static yX0_requireWren, .initialized RX0, .code yX0_requireWren cX0_requireWren 1 none, .classLink RX0 75 "java/lang/IndexOutOfBoundsException", .initialized "java/lang/IndexOutOfBoundsException"] ++ wsX00 ++ (vx_atS RX0 79 "java/lang/IndexOutOfBoundsException" ["java/lang/RuntimeException", "java/lang/Exception"]).filter goodWord)
def wsX0_cleanOf : List Cond := .code yX0_cleanOf cX0_cleanOf 2 (some .int) :: ([.fieldLink RX0 25 "TunedWrens" "cleanOfWren" "[I", .methodLink RX0 55 yX0_requireWren, .static yX0_requireWren, .initialized RX0, .code yX0_requireWren cX0_requireWren 1 none, .classLink RX0 75 "java/lang/IndexOutOfBoundsException", .initialized "java/lang/IndexOutOfBoundsException"] ++ wsX00 ++ (vx_atS RX0 79 "java/lang/IndexOutOfBoundsException" ["java/lang/RuntimeException", "java/lang/Exception"]).filter goodWord)
def wsX0_framesToRung_r1 : List Cond := [Cond.fieldLink RX0 9 "TunedWrens" "rungOfWren" "[I", Cond.methodLink RX0 55 yX0_requireWren, Cond.static yX0_requireWren, Cond.initialized RX0, Cond.code yX0_requireWren cX0_requireWren 1 none, Cond.classLink RX0 75 "java/lang/IndexOutOfBoundsException", Cond.initialized "java/lang/IndexOutOfBoundsException", Cond.methodLink RX0 59 yX0_requirePitch, Cond.static yX0_requirePitch, Cond.code yX0_requirePitch cX0_requirePitch 1 none, Cond.methodLink RX0 47 yX0_requireRange, Cond.static yX0_requireRange, Cond.code yX0_requireRange cX0_requireRange 3 none, Cond.classLink RX0 106 "java/lang/IllegalArgumentException", Cond.initialized "java/lang/IllegalArgumentException", Cond.methodLink RX0 85 yX0_nextRung, Cond.instanceMethod yX0_nextRung, Cond.selects RX0 yX0_nextRung yX0_nextRung, Cond.code yX0_nextRung cX0_nextRung 3 (some .int), Cond.methodLink RX0 120 Lib.Math.abs.name, Cond.static Lib.Math.abs.name, Cond.initialized "java/lang/Math", Cond.code Lib.Math.abs.name Lib.Math.abs.code 1 (some .int), Cond.fieldLink RX0 41 "TunedWrens" "rungLeash" "I"]
def wsX0_framesToRung_r2 : List Cond := [Cond.methodLink RX0 71 yX0_nearestRung, Cond.instanceMethod yX0_nearestRung, Cond.selects RX0 yX0_nearestRung yX0_nearestRung, Cond.code yX0_nearestRung cX0_nearestRung 4 (some .int), Cond.methodLink RX0 138 yX0_rungNotAbove, Cond.instanceMethod yX0_rungNotAbove, Cond.selects RX0 yX0_rungNotAbove yX0_rungNotAbove, Cond.code yX0_rungNotAbove cX0_rungNotAbove 3 (some .int), Cond.methodLink RX0 82 yX0_stepAt, Cond.instanceMethod yX0_stepAt, Cond.selects RX0 yX0_stepAt yX0_stepAt, Cond.code yX0_stepAt cX0_stepAt 2 (some .int), Cond.fieldLink RX0 31 "TunedWrens" "scaleKey" "I", Cond.fieldLink RX0 35 "TunedWrens" "scaleMode" "I", Cond.methodLink RX0 129 yX0_stepAbove, Cond.static yX0_stepAbove, Cond.code yX0_stepAbove cX0_stepAbove 6 (some .int), Cond.fieldLink RX0 135 "TunedWrens" "STEPS" "[I", Cond.methodLink RX0 132 yJ9_floorMod_7cf53, Cond.static yJ9_floorMod_7cf53, Cond.initialized RJ9, Cond.code yJ9_floorMod_7cf53 cJ9_floorMod_7cf53 3 (some .int), Cond.methodLink RX0 141 yX0_rungAbove, Cond.instanceMethod yX0_rungAbove]
def wsX0_framesToRung_r3 : List Cond := [Cond.selects RX0 yX0_rungAbove yX0_rungAbove, Cond.code yX0_rungAbove cX0_rungAbove 3 (some .int), Cond.methodLink RX0 88 yX0_nextNudge, Cond.instanceMethod yX0_nextNudge, Cond.selects RX0 yX0_nextNudge yX0_nextNudge, Cond.code yX0_nextNudge cX0_nextNudge 4 (some .int), Cond.fieldLink RX0 13 "TunedWrens" "nudgeOfWren" "[I", Cond.methodLink RX0 114 yX0_isLeap, Cond.instanceMethod yX0_isLeap, Cond.selects RX0 yX0_isLeap yX0_isLeap, Cond.code yX0_isLeap cX0_isLeap 3 (some .boolean), Cond.fieldLink RX0 44 "TunedWrens" "leapGlide" "I", Cond.methodLink RX0 111 yX0_isChange, Cond.static yX0_isChange, Cond.code yX0_isChange cX0_isChange 2 (some .boolean), Cond.methodLink RX0 92 yX0_nudgeTowards, Cond.instanceMethod yX0_nudgeTowards, Cond.selects RX0 yX0_nudgeTowards yX0_nudgeTowards, Cond.code yX0_nudgeTowards cX0_nudgeTowards 5 (some .int), Cond.fieldLink RX0 38 "TunedWrens" "nudgeSpeed" "I", Cond.methodLink RX0 123 Lib.Math.min.name, Cond.static Lib.Math.min.name, Cond.code Lib.Math.min.name Lib.Math.min.code 2 (some .int), Cond.methodLink RX0 126 Lib.Math.max.name]
def wsX0_framesToRung_r4 : List Cond := [Cond.static Lib.Math.max.name, Cond.code Lib.Math.max.name Lib.Math.max.code 2 (some .int)]
def wsX0_framesToRung : List Cond := .code yX0_framesToRung cX0_framesToRung 6 (some .int) :: ((wsX0_framesToRung_r1 ++ (wsX0_framesToRung_r2 ++ (wsX0_framesToRung_r3 ++ wsX0_framesToRung_r4))) ++ wsX00 ++ (vx_atS RX0 79 "java/lang/IndexOutOfBoundsException" ["java/lang/RuntimeException", "java/lang/Exception"]).filter goodWord ++ (vx_atS RX0 110 "java/lang/IllegalArgumentException" ["java/lang/RuntimeException", "java/lang/Exception"]).filter goodWord)
def wsX0_sung : List Cond := .code yX0_sung cX0_sung 2 (some .int) :: ([.classLink RX0 75 "java/lang/IndexOutOfBoundsException", .initialized "java/lang/IndexOutOfBoundsException", .fieldLink RX0 28 "TunedWrens" "framesOfSemitone" "[I"] ++ wsX00 ++ (vx_atS RX0 79 "java/lang/IndexOutOfBoundsException" ["java/lang/RuntimeException", "java/lang/Exception"]).filter goodWord)
def wsX0_framesWithin : List Cond := .code yX0_framesWithin cX0_framesWithin 5 (some .int) :: ([.fieldLink RX0 28 "TunedWrens" "framesOfSemitone" "[I", .methodLink RX0 129 yX0_stepAbove, .static yX0_stepAbove, .initialized RX0, .code yX0_stepAbove cX0_stepAbove 6 (some .int), .fieldLink RX0 135 "TunedWrens" "STEPS" "[I", .methodLink RX0 132 yJ9_floorMod_7cf53, .static yJ9_floorMod_7cf53, .initialized RJ9, .code yJ9_floorMod_7cf53 cJ9_floorMod_7cf53 3 (some .int)] ++ wsX00)
def wsX0_bestKey : List Cond := .code yX0_bestKey cX0_bestKey 6 (some .int) :: ([.methodLink RX0 47 yX0_requireRange, .static yX0_requireRange, .initialized RX0, .code yX0_requireRange cX0_requireRange 3 none, .classLink RX0 106 "java/lang/IllegalArgumentException", .initialized "java/lang/IllegalArgumentException", .methodLink RX0 97 yX0_framesWithin, .instanceMethod yX0_framesWithin, .selects RX0 yX0_framesWithin yX0_framesWithin, .code yX0_framesWithin cX0_framesWithin 5 (some .int), .fieldLink RX0 28 "TunedWrens" "framesOfSemitone" "[I", .methodLink RX0 129 yX0_stepAbove, .static yX0_stepAbove, .code yX0_stepAbove cX0_stepAbove 6 (some .int), .fieldLink RX0 135 "TunedWrens" "STEPS" "[I", .methodLink RX0 132 yJ9_floorMod_7cf53, .static yJ9_floorMod_7cf53, .initialized RJ9, .code yJ9_floorMod_7cf53 cJ9_floorMod_7cf53 3 (some .int)] ++ wsX00 ++ (vx_atS RX0 110 "java/lang/IllegalArgumentException" ["java/lang/RuntimeException", "java/lang/Exception"]).filter goodWord)
def wsX0_within : List Cond := .code yX0_within cX0_within 3 (some .int) :: ([.methodLink RX0 47 yX0_requireRange, .static yX0_requireRange, .initialized RX0, .code yX0_requireRange cX0_requireRange 3 none, .classLink RX0 106 "java/lang/IllegalArgumentException", .initialized "java/lang/IllegalArgumentException", .methodLink RX0 97 yX0_framesWithin, .instanceMethod yX0_framesWithin, .selects RX0 yX0_framesWithin yX0_framesWithin, .code yX0_framesWithin cX0_framesWithin 5 (some .int), .fieldLink RX0 28 "TunedWrens" "framesOfSemitone" "[I", .methodLink RX0 129 yX0_stepAbove, .static yX0_stepAbove, .code yX0_stepAbove cX0_stepAbove 6 (some .int), .fieldLink RX0 135 "TunedWrens" "STEPS" "[I", .methodLink RX0 132 yJ9_floorMod_7cf53, .static yJ9_floorMod_7cf53, .initialized RJ9, .code yJ9_floorMod_7cf53 cJ9_floorMod_7cf53 3 (some .int)] ++ wsX00 ++ (vx_atS RX0 110 "java/lang/IllegalArgumentException" ["java/lang/RuntimeException", "java/lang/Exception"]).filter goodWord)
def wsX0_areInOctaves : List Cond := .code yX0_areInOctaves cX0_areInOctaves 2 (some .boolean) :: ([])
def wsX0_inOctaves : List Cond := .code yX0_inOctaves cX0_inOctaves 4 (some .int) :: ([.fieldLink RX0 9 "TunedWrens" "rungOfWren" "[I", .methodLink RX0 100 yX0_areInOctaves, .static yX0_areInOctaves, .initialized RX0, .code yX0_areInOctaves cX0_areInOctaves 2 (some .boolean)] ++ wsX00)
def wsJ9_abs_0f7a4 : List Cond := .code yJ9_abs_0f7a4 cJ9_abs_0f7a4 1 (some .int) :: ([])
def wsJ9_max_7cf53 : List Cond := .code yJ9_max_7cf53 cJ9_max_7cf53 2 (some .int) :: ([])
def wsJ9_min_7cf53 : List Cond := .code yJ9_min_7cf53 cJ9_min_7cf53 2 (some .int) :: ([])
def wsL_cell : List Cond := .code yL_cell cL_cell 2 (some .int) :: ([])
def wsL_low : List Cond := .code yL_low cL_low 2 (some .int) :: ([.constant RL 7 (2147483647)])
def wsL_sing_r1 : List Cond := [Cond.classLink RL 14 "java/lang/IndexOutOfBoundsException", Cond.classLink RL 17 "java/lang/IllegalArgumentException", Cond.constant RL 16 (-99999), Cond.methodLink RL 8 yX0_sing, Cond.instanceMethod yX0_sing, Cond.selects RX0 yX0_sing yX0_sing, Cond.initialized RX0, Cond.code yX0_sing cX0_sing 3 (some .int), Cond.methodLink RX0 55 yX0_requireWren, Cond.static yX0_requireWren, Cond.code yX0_requireWren cX0_requireWren 1 none, Cond.classLink RX0 75 "java/lang/IndexOutOfBoundsException", Cond.initialized "java/lang/IndexOutOfBoundsException", Cond.methodLink RX0 59 yX0_requirePitch, Cond.static yX0_requirePitch, Cond.code yX0_requirePitch cX0_requirePitch 1 none, Cond.methodLink RX0 47 yX0_requireRange, Cond.static yX0_requireRange, Cond.code yX0_requireRange cX0_requireRange 3 none, Cond.classLink RX0 106 "java/lang/IllegalArgumentException", Cond.initialized "java/lang/IllegalArgumentException", Cond.methodLink RX0 62 yX0_singFrame, Cond.instanceMethod yX0_singFrame, Cond.selects RX0 yX0_singFrame yX0_singFrame]
def wsL_sing_r2 : List Cond := [Cond.code yX0_singFrame cX0_singFrame 7 (some .int), Cond.fieldLink RX0 9 "TunedWrens" "rungOfWren" "[I", Cond.fieldLink RX0 13 "TunedWrens" "nudgeOfWren" "[I", Cond.fieldLink RX0 16 "TunedWrens" "framesOfWren" "[I", Cond.fieldLink RX0 19 "TunedWrens" "changesOfWren" "[I", Cond.fieldLink RX0 22 "TunedWrens" "leapsOfWren" "[I", Cond.fieldLink RX0 25 "TunedWrens" "cleanOfWren" "[I", Cond.fieldLink RX0 28 "TunedWrens" "framesOfSemitone" "[I", Cond.methodLink RX0 85 yX0_nextRung, Cond.instanceMethod yX0_nextRung, Cond.selects RX0 yX0_nextRung yX0_nextRung, Cond.code yX0_nextRung cX0_nextRung 3 (some .int), Cond.methodLink RX0 120 Lib.Math.abs.name, Cond.static Lib.Math.abs.name, Cond.initialized "java/lang/Math", Cond.code Lib.Math.abs.name Lib.Math.abs.code 1 (some .int), Cond.fieldLink RX0 41 "TunedWrens" "rungLeash" "I", Cond.methodLink RX0 71 yX0_nearestRung, Cond.instanceMethod yX0_nearestRung, Cond.selects RX0 yX0_nearestRung yX0_nearestRung, Cond.code yX0_nearestRung cX0_nearestRung 4 (some .int), Cond.methodLink RX0 138 yX0_rungNotAbove, Cond.instanceMethod yX0_rungNotAbove, Cond.selects RX0 yX0_rungNotAbove yX0_rungNotAbove]
def wsL_sing_r3 : List Cond := [Cond.code yX0_rungNotAbove cX0_rungNotAbove 3 (some .int), Cond.methodLink RX0 82 yX0_stepAt, Cond.instanceMethod yX0_stepAt, Cond.selects RX0 yX0_stepAt yX0_stepAt, Cond.code yX0_stepAt cX0_stepAt 2 (some .int), Cond.fieldLink RX0 31 "TunedWrens" "scaleKey" "I", Cond.fieldLink RX0 35 "TunedWrens" "scaleMode" "I", Cond.methodLink RX0 129 yX0_stepAbove, Cond.static yX0_stepAbove, Cond.code yX0_stepAbove cX0_stepAbove 6 (some .int), Cond.fieldLink RX0 135 "TunedWrens" "STEPS" "[I", Cond.methodLink RX0 132 yJ9_floorMod_7cf53, Cond.static yJ9_floorMod_7cf53, Cond.initialized RJ9, Cond.code yJ9_floorMod_7cf53 cJ9_floorMod_7cf53 3 (some .int), Cond.methodLink RX0 141 yX0_rungAbove, Cond.instanceMethod yX0_rungAbove, Cond.selects RX0 yX0_rungAbove yX0_rungAbove, Cond.code yX0_rungAbove cX0_rungAbove 3 (some .int), Cond.methodLink RX0 88 yX0_nextNudge, Cond.instanceMethod yX0_nextNudge, Cond.selects RX0 yX0_nextNudge yX0_nextNudge, Cond.code yX0_nextNudge cX0_nextNudge 4 (some .int), Cond.methodLink RX0 114 yX0_isLeap]
def wsL_sing_r4 : List Cond := [Cond.instanceMethod yX0_isLeap, Cond.selects RX0 yX0_isLeap yX0_isLeap, Cond.code yX0_isLeap cX0_isLeap 3 (some .boolean), Cond.fieldLink RX0 44 "TunedWrens" "leapGlide" "I", Cond.methodLink RX0 111 yX0_isChange, Cond.static yX0_isChange, Cond.code yX0_isChange cX0_isChange 2 (some .boolean), Cond.methodLink RX0 92 yX0_nudgeTowards, Cond.instanceMethod yX0_nudgeTowards, Cond.selects RX0 yX0_nudgeTowards yX0_nudgeTowards, Cond.code yX0_nudgeTowards cX0_nudgeTowards 5 (some .int), Cond.fieldLink RX0 38 "TunedWrens" "nudgeSpeed" "I", Cond.methodLink RX0 123 Lib.Math.min.name, Cond.static Lib.Math.min.name, Cond.code Lib.Math.min.name Lib.Math.min.code 2 (some .int), Cond.methodLink RX0 126 Lib.Math.max.name, Cond.static Lib.Math.max.name, Cond.code Lib.Math.max.name Lib.Math.max.code 2 (some .int), Cond.methodLink RX0 51 yX0_isRung, Cond.instanceMethod yX0_isRung, Cond.selects RX0 yX0_isRung yX0_isRung, Cond.code yX0_isRung cX0_isRung 2 (some .boolean), Cond.methodLink RX0 117 yX0_nearestSemitone, Cond.static yX0_nearestSemitone]
def wsL_sing_r5 : List Cond := [Cond.code yX0_nearestSemitone cX0_nearestSemitone 1 (some .int)]
def wsL_sing : List Cond := .codeWith yL_sing cL_sing 4 (some .int) [(0, 6, 7, 14), (0, 6, 11, 17)] :: ((wsL_sing_r1 ++ (wsL_sing_r2 ++ (wsL_sing_r3 ++ (wsL_sing_r4 ++ wsL_sing_r5)))) ++ wsX00 ++ (vx_atS RX0 79 "java/lang/IndexOutOfBoundsException" ["java/lang/RuntimeException", "java/lang/Exception"]).filter goodWord ++ (vx_atS RX0 110 "java/lang/IllegalArgumentException" ["java/lang/RuntimeException", "java/lang/Exception"]).filter goodWord)
def wsL_slide_r1 : List Cond := [Cond.classLink RL 14 "java/lang/IndexOutOfBoundsException", Cond.classLink RL 17 "java/lang/IllegalArgumentException", Cond.constant RL 16 (-99999), Cond.methodLink RL 19 yX0_slide, Cond.instanceMethod yX0_slide, Cond.selects RX0 yX0_slide yX0_slide, Cond.initialized RX0, Cond.code yX0_slide cX0_slide 7 (some .int), Cond.fieldLink RX0 19 "TunedWrens" "changesOfWren" "[I", Cond.methodLink RX0 55 yX0_requireWren, Cond.static yX0_requireWren, Cond.code yX0_requireWren cX0_requireWren 1 none, Cond.classLink RX0 75 "java/lang/IndexOutOfBoundsException", Cond.initialized "java/lang/IndexOutOfBoundsException", Cond.methodLink RX0 59 yX0_requirePitch, Cond.static yX0_requirePitch, Cond.code yX0_requirePitch cX0_requirePitch 1 none, Cond.methodLink RX0 47 yX0_requireRange, Cond.static yX0_requireRange, Cond.code yX0_requireRange cX0_requireRange 3 none, Cond.classLink RX0 106 "java/lang/IllegalArgumentException", Cond.initialized "java/lang/IllegalArgumentException", Cond.methodLink RX0 66 yJ9_floorDiv_7cf53, Cond.static yJ9_floorDiv_7cf53]
def wsL_slide_r2 : List Cond := [Cond.initialized RJ9, Cond.code yJ9_floorDiv_7cf53 cJ9_floorDiv_7cf53 3 (some .int), Cond.methodLink RX0 62 yX0_singFrame, Cond.instanceMethod yX0_singFrame, Cond.selects RX0 yX0_singFrame yX0_singFrame, Cond.code yX0_singFrame cX0_singFrame 7 (some .int), Cond.fieldLink RX0 9 "TunedWrens" "rungOfWren" "[I", Cond.fieldLink RX0 13 "TunedWrens" "nudgeOfWren" "[I", Cond.fieldLink RX0 16 "TunedWrens" "framesOfWren" "[I", Cond.fieldLink RX0 22 "TunedWrens" "leapsOfWren" "[I", Cond.fieldLink RX0 25 "TunedWrens" "cleanOfWren" "[I", Cond.fieldLink RX0 28 "TunedWrens" "framesOfSemitone" "[I", Cond.methodLink RX0 85 yX0_nextRung, Cond.instanceMethod yX0_nextRung, Cond.selects RX0 yX0_nextRung yX0_nextRung, Cond.code yX0_nextRung cX0_nextRung 3 (some .int), Cond.methodLink RX0 120 Lib.Math.abs.name, Cond.static Lib.Math.abs.name, Cond.initialized "java/lang/Math", Cond.code Lib.Math.abs.name Lib.Math.abs.code 1 (some .int), Cond.fieldLink RX0 41 "TunedWrens" "rungLeash" "I", Cond.methodLink RX0 71 yX0_nearestRung, Cond.instanceMethod yX0_nearestRung, Cond.selects RX0 yX0_nearestRung yX0_nearestRung]
def wsL_slide_r3 : List Cond := [Cond.code yX0_nearestRung cX0_nearestRung 4 (some .int), Cond.methodLink RX0 138 yX0_rungNotAbove, Cond.instanceMethod yX0_rungNotAbove, Cond.selects RX0 yX0_rungNotAbove yX0_rungNotAbove, Cond.code yX0_rungNotAbove cX0_rungNotAbove 3 (some .int), Cond.methodLink RX0 82 yX0_stepAt, Cond.instanceMethod yX0_stepAt, Cond.selects RX0 yX0_stepAt yX0_stepAt, Cond.code yX0_stepAt cX0_stepAt 2 (some .int), Cond.fieldLink RX0 31 "TunedWrens" "scaleKey" "I", Cond.fieldLink RX0 35 "TunedWrens" "scaleMode" "I", Cond.methodLink RX0 129 yX0_stepAbove, Cond.static yX0_stepAbove, Cond.code yX0_stepAbove cX0_stepAbove 6 (some .int), Cond.fieldLink RX0 135 "TunedWrens" "STEPS" "[I", Cond.methodLink RX0 132 yJ9_floorMod_7cf53, Cond.static yJ9_floorMod_7cf53, Cond.code yJ9_floorMod_7cf53 cJ9_floorMod_7cf53 3 (some .int), Cond.methodLink RX0 141 yX0_rungAbove, Cond.instanceMethod yX0_rungAbove, Cond.selects RX0 yX0_rungAbove yX0_rungAbove, Cond.code yX0_rungAbove cX0_rungAbove 3 (some .int), Cond.methodLink RX0 88 yX0_nextNudge, Cond.instanceMethod yX0_nextNudge]
def wsL_slide_r4 : List Cond := [Cond.selects RX0 yX0_nextNudge yX0_nextNudge, Cond.code yX0_nextNudge cX0_nextNudge 4 (some .int), Cond.methodLink RX0 114 yX0_isLeap, Cond.instanceMethod yX0_isLeap, Cond.selects RX0 yX0_isLeap yX0_isLeap, Cond.code yX0_isLeap cX0_isLeap 3 (some .boolean), Cond.fieldLink RX0 44 "TunedWrens" "leapGlide" "I", Cond.methodLink RX0 111 yX0_isChange, Cond.static yX0_isChange, Cond.code yX0_isChange cX0_isChange 2 (some .boolean), Cond.methodLink RX0 92 yX0_nudgeTowards, Cond.instanceMethod yX0_nudgeTowards, Cond.selects RX0 yX0_nudgeTowards yX0_nudgeTowards, Cond.code yX0_nudgeTowards cX0_nudgeTowards 5 (some .int), Cond.fieldLink RX0 38 "TunedWrens" "nudgeSpeed" "I", Cond.methodLink RX0 123 Lib.Math.min.name, Cond.static Lib.Math.min.name, Cond.code Lib.Math.min.name Lib.Math.min.code 2 (some .int), Cond.methodLink RX0 126 Lib.Math.max.name, Cond.static Lib.Math.max.name, Cond.code Lib.Math.max.name Lib.Math.max.code 2 (some .int), Cond.methodLink RX0 51 yX0_isRung, Cond.instanceMethod yX0_isRung, Cond.selects RX0 yX0_isRung yX0_isRung]
def wsL_slide_r5 : List Cond := [Cond.code yX0_isRung cX0_isRung 2 (some .boolean), Cond.methodLink RX0 117 yX0_nearestSemitone, Cond.static yX0_nearestSemitone, Cond.code yX0_nearestSemitone cX0_nearestSemitone 1 (some .int)]
def wsL_slide : List Cond := .codeWith yL_slide cL_slide 6 (some .int) [(0, 9, 10, 14), (0, 9, 15, 17)] :: ((wsL_slide_r1 ++ (wsL_slide_r2 ++ (wsL_slide_r3 ++ (wsL_slide_r4 ++ wsL_slide_r5)))) ++ wsX00 ++ (vx_atS RX0 79 "java/lang/IndexOutOfBoundsException" ["java/lang/RuntimeException", "java/lang/Exception"]).filter goodWord ++ (vx_atS RX0 110 "java/lang/IllegalArgumentException" ["java/lang/RuntimeException", "java/lang/Exception"]).filter goodWord)
def wsL_rest : List Cond := .codeWith yL_rest cL_rest 3 (some .int) [(0, 5, 6, 14)] :: ([.classLink RL 14 "java/lang/IndexOutOfBoundsException", .constant RL 16 (-99999), .methodLink RL 23 yX0_rest, .instanceMethod yX0_rest, .selects RX0 yX0_rest yX0_rest, .initialized RX0, .code yX0_rest cX0_rest 3 (some .int), .fieldLink RX0 9 "TunedWrens" "rungOfWren" "[I", .fieldLink RX0 13 "TunedWrens" "nudgeOfWren" "[I", .methodLink RX0 55 yX0_requireWren, .static yX0_requireWren, .code yX0_requireWren cX0_requireWren 1 none, .classLink RX0 75 "java/lang/IndexOutOfBoundsException", .initialized "java/lang/IndexOutOfBoundsException"] ++ wsX00 ++ (vx_atS RX0 79 "java/lang/IndexOutOfBoundsException" ["java/lang/RuntimeException", "java/lang/Exception"]).filter goodWord)
def wsL_scale_r1 : List Cond := [Cond.classLink RL 17 "java/lang/IllegalArgumentException", Cond.constant RL 16 (-99999), Cond.methodLink RL 27 yX0_setScale, Cond.instanceMethod yX0_setScale, Cond.selects RX0 yX0_setScale yX0_setScale, Cond.initialized RX0, Cond.code yX0_setScale cX0_setScale 5 (some .int), Cond.fieldLink RX0 31 "TunedWrens" "scaleKey" "I", Cond.fieldLink RX0 35 "TunedWrens" "scaleMode" "I", Cond.fieldLink RX0 9 "TunedWrens" "rungOfWren" "[I", Cond.methodLink RX0 47 yX0_requireRange, Cond.static yX0_requireRange, Cond.code yX0_requireRange cX0_requireRange 3 none, Cond.classLink RX0 106 "java/lang/IllegalArgumentException", Cond.initialized "java/lang/IllegalArgumentException", Cond.methodLink RX0 51 yX0_isRung, Cond.instanceMethod yX0_isRung, Cond.selects RX0 yX0_isRung yX0_isRung, Cond.code yX0_isRung cX0_isRung 2 (some .boolean), Cond.methodLink RX0 82 yX0_stepAt, Cond.instanceMethod yX0_stepAt, Cond.selects RX0 yX0_stepAt yX0_stepAt, Cond.code yX0_stepAt cX0_stepAt 2 (some .int), Cond.methodLink RX0 129 yX0_stepAbove]
def wsL_scale_r2 : List Cond := [Cond.static yX0_stepAbove, Cond.code yX0_stepAbove cX0_stepAbove 6 (some .int), Cond.fieldLink RX0 135 "TunedWrens" "STEPS" "[I", Cond.methodLink RX0 132 yJ9_floorMod_7cf53, Cond.static yJ9_floorMod_7cf53, Cond.initialized RJ9, Cond.code yJ9_floorMod_7cf53 cJ9_floorMod_7cf53 3 (some .int)]
def wsL_scale : List Cond := .codeWith yL_scale cL_scale 4 (some .int) [(0, 6, 7, 17)] :: ((wsL_scale_r1 ++ wsL_scale_r2) ++ wsX00 ++ (vx_atS RX0 110 "java/lang/IllegalArgumentException" ["java/lang/RuntimeException", "java/lang/Exception"]).filter goodWord)
def wsL_nudge : List Cond := .codeWith yL_nudge cL_nudge 5 (some .boolean) [(0, 7, 10, 17)] :: ([.classLink RL 17 "java/lang/IllegalArgumentException", .methodLink RL 30 yX0_setNudging, .instanceMethod yX0_setNudging, .selects RX0 yX0_setNudging yX0_setNudging, .initialized RX0, .code yX0_setNudging cX0_setNudging 4 none, .fieldLink RX0 38 "TunedWrens" "nudgeSpeed" "I", .fieldLink RX0 41 "TunedWrens" "rungLeash" "I", .fieldLink RX0 44 "TunedWrens" "leapGlide" "I", .methodLink RX0 47 yX0_requireRange, .static yX0_requireRange, .code yX0_requireRange cX0_requireRange 3 none, .classLink RX0 106 "java/lang/IllegalArgumentException", .initialized "java/lang/IllegalArgumentException"] ++ wsX00 ++ (vx_atS RX0 110 "java/lang/IllegalArgumentException" ["java/lang/RuntimeException", "java/lang/Exception"]).filter goodWord)
def wsL_act_r1 : List Cond := [Cond.constant RL 16 (-99999), Cond.methodLink RL 34 yL_low, Cond.static yL_low, Cond.initialized RL, Cond.code yL_low cL_low 2 (some .int), Cond.constant RL 7 (2147483647), Cond.methodLink RL 39 yL_scale, Cond.static yL_scale, Cond.codeWith yL_scale cL_scale 4 (some .int) [(0, 6, 7, 17)], Cond.classLink RL 17 "java/lang/IllegalArgumentException", Cond.methodLink RL 27 yX0_setScale, Cond.instanceMethod yX0_setScale, Cond.selects RX0 yX0_setScale yX0_setScale, Cond.initialized RX0, Cond.code yX0_setScale cX0_setScale 5 (some .int), Cond.fieldLink RX0 31 "TunedWrens" "scaleKey" "I", Cond.fieldLink RX0 35 "TunedWrens" "scaleMode" "I", Cond.fieldLink RX0 9 "TunedWrens" "rungOfWren" "[I", Cond.methodLink RX0 47 yX0_requireRange, Cond.static yX0_requireRange, Cond.code yX0_requireRange cX0_requireRange 3 none, Cond.classLink RX0 106 "java/lang/IllegalArgumentException", Cond.initialized "java/lang/IllegalArgumentException", Cond.methodLink RX0 51 yX0_isRung]
def wsL_act_r2 : List Cond := [Cond.instanceMethod yX0_isRung, Cond.selects RX0 yX0_isRung yX0_isRung, Cond.code yX0_isRung cX0_isRung 2 (some .boolean), Cond.methodLink RX0 82 yX0_stepAt, Cond.instanceMethod yX0_stepAt, Cond.selects RX0 yX0_stepAt yX0_stepAt, Cond.code yX0_stepAt cX0_stepAt 2 (some .int), Cond.methodLink RX0 129 yX0_stepAbove, Cond.static yX0_stepAbove, Cond.code yX0_stepAbove cX0_stepAbove 6 (some .int), Cond.fieldLink RX0 135 "TunedWrens" "STEPS" "[I", Cond.methodLink RX0 132 yJ9_floorMod_7cf53, Cond.static yJ9_floorMod_7cf53, Cond.initialized RJ9, Cond.code yJ9_floorMod_7cf53 cJ9_floorMod_7cf53 3 (some .int), Cond.methodLink RL 43 yL_nudge, Cond.static yL_nudge, Cond.codeWith yL_nudge cL_nudge 5 (some .boolean) [(0, 7, 10, 17)], Cond.methodLink RL 30 yX0_setNudging, Cond.instanceMethod yX0_setNudging, Cond.selects RX0 yX0_setNudging yX0_setNudging, Cond.code yX0_setNudging cX0_setNudging 4 none, Cond.fieldLink RX0 38 "TunedWrens" "nudgeSpeed" "I", Cond.fieldLink RX0 41 "TunedWrens" "rungLeash" "I"]
def wsL_act_r3 : List Cond := [Cond.fieldLink RX0 44 "TunedWrens" "leapGlide" "I", Cond.methodLink RL 47 yL_rest, Cond.static yL_rest, Cond.codeWith yL_rest cL_rest 3 (some .int) [(0, 5, 6, 14)], Cond.classLink RL 14 "java/lang/IndexOutOfBoundsException", Cond.methodLink RL 23 yX0_rest, Cond.instanceMethod yX0_rest, Cond.selects RX0 yX0_rest yX0_rest, Cond.code yX0_rest cX0_rest 3 (some .int), Cond.fieldLink RX0 13 "TunedWrens" "nudgeOfWren" "[I", Cond.methodLink RX0 55 yX0_requireWren, Cond.static yX0_requireWren, Cond.code yX0_requireWren cX0_requireWren 1 none, Cond.classLink RX0 75 "java/lang/IndexOutOfBoundsException", Cond.initialized "java/lang/IndexOutOfBoundsException", Cond.methodLink RL 50 yL_slide, Cond.static yL_slide, Cond.codeWith yL_slide cL_slide 6 (some .int) [(0, 9, 10, 14), (0, 9, 15, 17)], Cond.methodLink RL 19 yX0_slide, Cond.instanceMethod yX0_slide, Cond.selects RX0 yX0_slide yX0_slide, Cond.code yX0_slide cX0_slide 7 (some .int), Cond.fieldLink RX0 19 "TunedWrens" "changesOfWren" "[I", Cond.methodLink RX0 59 yX0_requirePitch]
def wsL_act_r4 : List Cond := [Cond.static yX0_requirePitch, Cond.code yX0_requirePitch cX0_requirePitch 1 none, Cond.methodLink RX0 66 yJ9_floorDiv_7cf53, Cond.static yJ9_floorDiv_7cf53, Cond.code yJ9_floorDiv_7cf53 cJ9_floorDiv_7cf53 3 (some .int), Cond.methodLink RX0 62 yX0_singFrame, Cond.instanceMethod yX0_singFrame, Cond.selects RX0 yX0_singFrame yX0_singFrame, Cond.code yX0_singFrame cX0_singFrame 7 (some .int), Cond.fieldLink RX0 16 "TunedWrens" "framesOfWren" "[I", Cond.fieldLink RX0 22 "TunedWrens" "leapsOfWren" "[I", Cond.fieldLink RX0 25 "TunedWrens" "cleanOfWren" "[I", Cond.fieldLink RX0 28 "TunedWrens" "framesOfSemitone" "[I", Cond.methodLink RX0 85 yX0_nextRung, Cond.instanceMethod yX0_nextRung, Cond.selects RX0 yX0_nextRung yX0_nextRung, Cond.code yX0_nextRung cX0_nextRung 3 (some .int), Cond.methodLink RX0 120 Lib.Math.abs.name, Cond.static Lib.Math.abs.name, Cond.initialized "java/lang/Math", Cond.code Lib.Math.abs.name Lib.Math.abs.code 1 (some .int), Cond.methodLink RX0 71 yX0_nearestRung, Cond.instanceMethod yX0_nearestRung, Cond.selects RX0 yX0_nearestRung yX0_nearestRung]
def wsL_act_r5 : List Cond := [Cond.code yX0_nearestRung cX0_nearestRung 4 (some .int), Cond.methodLink RX0 138 yX0_rungNotAbove, Cond.instanceMethod yX0_rungNotAbove, Cond.selects RX0 yX0_rungNotAbove yX0_rungNotAbove, Cond.code yX0_rungNotAbove cX0_rungNotAbove 3 (some .int), Cond.methodLink RX0 141 yX0_rungAbove, Cond.instanceMethod yX0_rungAbove, Cond.selects RX0 yX0_rungAbove yX0_rungAbove, Cond.code yX0_rungAbove cX0_rungAbove 3 (some .int), Cond.methodLink RX0 88 yX0_nextNudge, Cond.instanceMethod yX0_nextNudge, Cond.selects RX0 yX0_nextNudge yX0_nextNudge, Cond.code yX0_nextNudge cX0_nextNudge 4 (some .int), Cond.methodLink RX0 114 yX0_isLeap, Cond.instanceMethod yX0_isLeap, Cond.selects RX0 yX0_isLeap yX0_isLeap, Cond.code yX0_isLeap cX0_isLeap 3 (some .boolean), Cond.methodLink RX0 111 yX0_isChange, Cond.static yX0_isChange, Cond.code yX0_isChange cX0_isChange 2 (some .boolean), Cond.methodLink RX0 92 yX0_nudgeTowards, Cond.instanceMethod yX0_nudgeTowards, Cond.selects RX0 yX0_nudgeTowards yX0_nudgeTowards, Cond.code yX0_nudgeTowards cX0_nudgeTowards 5 (some .int)]
def wsL_act_r6 : List Cond := [Cond.methodLink RX0 123 Lib.Math.min.name, Cond.static Lib.Math.min.name, Cond.code Lib.Math.min.name Lib.Math.min.code 2 (some .int), Cond.methodLink RX0 126 Lib.Math.max.name, Cond.static Lib.Math.max.name, Cond.code Lib.Math.max.name Lib.Math.max.code 2 (some .int), Cond.methodLink RX0 117 yX0_nearestSemitone, Cond.static yX0_nearestSemitone, Cond.code yX0_nearestSemitone cX0_nearestSemitone 1 (some .int), Cond.methodLink RL 53 yX0_rungOf, Cond.instanceMethod yX0_rungOf, Cond.selects RX0 yX0_rungOf yX0_rungOf, Cond.code yX0_rungOf cX0_rungOf 2 (some .int), Cond.methodLink RL 56 yL_sing, Cond.static yL_sing, Cond.codeWith yL_sing cL_sing 4 (some .int) [(0, 6, 7, 14), (0, 6, 11, 17)], Cond.methodLink RL 8 yX0_sing, Cond.instanceMethod yX0_sing, Cond.selects RX0 yX0_sing yX0_sing, Cond.code yX0_sing cX0_sing 3 (some .int)]
def wsL_act : List Cond := .code yL_act cL_act 5 (some .int) :: ((wsL_act_r1 ++ (wsL_act_r2 ++ (wsL_act_r3 ++ (wsL_act_r4 ++ (wsL_act_r5 ++ wsL_act_r6))))) ++ wsX00 ++ (vx_atS RX0 110 "java/lang/IllegalArgumentException" ["java/lang/RuntimeException", "java/lang/Exception"]).filter goodWord ++ (vx_atS RX0 79 "java/lang/IndexOutOfBoundsException" ["java/lang/RuntimeException", "java/lang/Exception"]).filter goodWord)
def wsL_areAlike_r1 : List Cond := [Cond.methodLink RL 58 yX0_rungs, Cond.instanceMethod yX0_rungs, Cond.selects RX0 yX0_rungs yX0_rungs, Cond.initialized RX0, Cond.code yX0_rungs cX0_rungs 3 (some .int), Cond.methodLink RX0 51 yX0_isRung, Cond.instanceMethod yX0_isRung, Cond.selects RX0 yX0_isRung yX0_isRung, Cond.code yX0_isRung cX0_isRung 2 (some .boolean), Cond.methodLink RX0 82 yX0_stepAt, Cond.instanceMethod yX0_stepAt, Cond.selects RX0 yX0_stepAt yX0_stepAt, Cond.code yX0_stepAt cX0_stepAt 2 (some .int), Cond.fieldLink RX0 31 "TunedWrens" "scaleKey" "I", Cond.fieldLink RX0 35 "TunedWrens" "scaleMode" "I", Cond.methodLink RX0 129 yX0_stepAbove, Cond.static yX0_stepAbove, Cond.code yX0_stepAbove cX0_stepAbove 6 (some .int), Cond.fieldLink RX0 135 "TunedWrens" "STEPS" "[I", Cond.methodLink RX0 132 yJ9_floorMod_7cf53, Cond.static yJ9_floorMod_7cf53, Cond.initialized RJ9, Cond.code yJ9_floorMod_7cf53 cJ9_floorMod_7cf53 3 (some .int), Cond.methodLink RL 62 yX0_rung]
def wsL_areAlike_r2 : List Cond := [Cond.instanceMethod yX0_rung, Cond.selects RX0 yX0_rung yX0_rung, Cond.code yX0_rung cX0_rung 4 (some .int), Cond.classLink RX0 75 "java/lang/IndexOutOfBoundsException", Cond.initialized "java/lang/IndexOutOfBoundsException", Cond.methodLink RL 65 yX0_inOctaves, Cond.instanceMethod yX0_inOctaves, Cond.selects RX0 yX0_inOctaves yX0_inOctaves, Cond.code yX0_inOctaves cX0_inOctaves 4 (some .int), Cond.fieldLink RX0 9 "TunedWrens" "rungOfWren" "[I", Cond.methodLink RX0 100 yX0_areInOctaves, Cond.static yX0_areInOctaves, Cond.code yX0_areInOctaves cX0_areInOctaves 2 (some .boolean), Cond.methodLink RL 53 yX0_rungOf, Cond.instanceMethod yX0_rungOf, Cond.selects RX0 yX0_rungOf yX0_rungOf, Cond.code yX0_rungOf cX0_rungOf 2 (some .int), Cond.methodLink RX0 55 yX0_requireWren, Cond.static yX0_requireWren, Cond.code yX0_requireWren cX0_requireWren 1 none, Cond.methodLink RL 68 yX0_nudgeOf, Cond.instanceMethod yX0_nudgeOf, Cond.selects RX0 yX0_nudgeOf yX0_nudgeOf, Cond.code yX0_nudgeOf cX0_nudgeOf 2 (some .int)]
def wsL_areAlike_r3 : List Cond := [Cond.fieldLink RX0 13 "TunedWrens" "nudgeOfWren" "[I", Cond.methodLink RL 71 yX0_framesOf, Cond.instanceMethod yX0_framesOf, Cond.selects RX0 yX0_framesOf yX0_framesOf, Cond.code yX0_framesOf cX0_framesOf 2 (some .int), Cond.fieldLink RX0 16 "TunedWrens" "framesOfWren" "[I", Cond.methodLink RL 74 yX0_changesOf, Cond.instanceMethod yX0_changesOf, Cond.selects RX0 yX0_changesOf yX0_changesOf, Cond.code yX0_changesOf cX0_changesOf 2 (some .int), Cond.fieldLink RX0 19 "TunedWrens" "changesOfWren" "[I", Cond.methodLink RL 77 yX0_leapsOf, Cond.instanceMethod yX0_leapsOf, Cond.selects RX0 yX0_leapsOf yX0_leapsOf, Cond.code yX0_leapsOf cX0_leapsOf 2 (some .int), Cond.fieldLink RX0 22 "TunedWrens" "leapsOfWren" "[I", Cond.methodLink RL 80 yX0_cleanOf, Cond.instanceMethod yX0_cleanOf, Cond.selects RX0 yX0_cleanOf yX0_cleanOf, Cond.code yX0_cleanOf cX0_cleanOf 2 (some .int), Cond.fieldLink RX0 25 "TunedWrens" "cleanOfWren" "[I", Cond.methodLink RL 83 yX0_framesToRung, Cond.instanceMethod yX0_framesToRung, Cond.selects RX0 yX0_framesToRung yX0_framesToRung]
def wsL_areAlike_r4 : List Cond := [Cond.code yX0_framesToRung cX0_framesToRung 6 (some .int), Cond.methodLink RX0 59 yX0_requirePitch, Cond.static yX0_requirePitch, Cond.code yX0_requirePitch cX0_requirePitch 1 none, Cond.methodLink RX0 47 yX0_requireRange, Cond.static yX0_requireRange, Cond.code yX0_requireRange cX0_requireRange 3 none, Cond.classLink RX0 106 "java/lang/IllegalArgumentException", Cond.initialized "java/lang/IllegalArgumentException", Cond.methodLink RX0 85 yX0_nextRung, Cond.instanceMethod yX0_nextRung, Cond.selects RX0 yX0_nextRung yX0_nextRung, Cond.code yX0_nextRung cX0_nextRung 3 (some .int), Cond.methodLink RX0 120 Lib.Math.abs.name, Cond.static Lib.Math.abs.name, Cond.initialized "java/lang/Math", Cond.code Lib.Math.abs.name Lib.Math.abs.code 1 (some .int), Cond.fieldLink RX0 41 "TunedWrens" "rungLeash" "I", Cond.methodLink RX0 71 yX0_nearestRung, Cond.instanceMethod yX0_nearestRung, Cond.selects RX0 yX0_nearestRung yX0_nearestRung, Cond.code yX0_nearestRung cX0_nearestRung 4 (some .int), Cond.methodLink RX0 138 yX0_rungNotAbove, Cond.instanceMethod yX0_rungNotAbove]
def wsL_areAlike_r5 : List Cond := [Cond.selects RX0 yX0_rungNotAbove yX0_rungNotAbove, Cond.code yX0_rungNotAbove cX0_rungNotAbove 3 (some .int), Cond.methodLink RX0 141 yX0_rungAbove, Cond.instanceMethod yX0_rungAbove, Cond.selects RX0 yX0_rungAbove yX0_rungAbove, Cond.code yX0_rungAbove cX0_rungAbove 3 (some .int), Cond.methodLink RX0 88 yX0_nextNudge, Cond.instanceMethod yX0_nextNudge, Cond.selects RX0 yX0_nextNudge yX0_nextNudge, Cond.code yX0_nextNudge cX0_nextNudge 4 (some .int), Cond.methodLink RX0 114 yX0_isLeap, Cond.instanceMethod yX0_isLeap, Cond.selects RX0 yX0_isLeap yX0_isLeap, Cond.code yX0_isLeap cX0_isLeap 3 (some .boolean), Cond.fieldLink RX0 44 "TunedWrens" "leapGlide" "I", Cond.methodLink RX0 111 yX0_isChange, Cond.static yX0_isChange, Cond.code yX0_isChange cX0_isChange 2 (some .boolean), Cond.methodLink RX0 92 yX0_nudgeTowards, Cond.instanceMethod yX0_nudgeTowards, Cond.selects RX0 yX0_nudgeTowards yX0_nudgeTowards, Cond.code yX0_nudgeTowards cX0_nudgeTowards 5 (some .int), Cond.fieldLink RX0 38 "TunedWrens" "nudgeSpeed" "I", Cond.methodLink RX0 123 Lib.Math.min.name]
def wsL_areAlike_r6 : List Cond := [Cond.static Lib.Math.min.name, Cond.code Lib.Math.min.name Lib.Math.min.code 2 (some .int), Cond.methodLink RX0 126 Lib.Math.max.name, Cond.static Lib.Math.max.name, Cond.code Lib.Math.max.name Lib.Math.max.code 2 (some .int), Cond.methodLink RL 86 yX0_sung, Cond.instanceMethod yX0_sung, Cond.selects RX0 yX0_sung yX0_sung, Cond.code yX0_sung cX0_sung 2 (some .int), Cond.fieldLink RX0 28 "TunedWrens" "framesOfSemitone" "[I"]
def wsL_areAlike : List Cond := .code yL_areAlike cL_areAlike 4 (some .boolean) :: ((wsL_areAlike_r1 ++ (wsL_areAlike_r2 ++ (wsL_areAlike_r3 ++ (wsL_areAlike_r4 ++ (wsL_areAlike_r5 ++ wsL_areAlike_r6))))) ++ wsX00 ++ (vx_atS RX0 79 "java/lang/IndexOutOfBoundsException" ["java/lang/RuntimeException", "java/lang/Exception"]).filter goodWord ++ (vx_atS RX0 110 "java/lang/IllegalArgumentException" ["java/lang/RuntimeException", "java/lang/Exception"]).filter goodWord)
def wsL_areWrensSo_r1 : List Cond := [Cond.methodLink RL 53 yX0_rungOf, Cond.instanceMethod yX0_rungOf, Cond.selects RX0 yX0_rungOf yX0_rungOf, Cond.initialized RX0, Cond.code yX0_rungOf cX0_rungOf 2 (some .int), Cond.fieldLink RX0 9 "TunedWrens" "rungOfWren" "[I", Cond.methodLink RX0 55 yX0_requireWren, Cond.static yX0_requireWren, Cond.code yX0_requireWren cX0_requireWren 1 none, Cond.classLink RX0 75 "java/lang/IndexOutOfBoundsException", Cond.initialized "java/lang/IndexOutOfBoundsException", Cond.methodLink RL 71 yX0_framesOf, Cond.instanceMethod yX0_framesOf, Cond.selects RX0 yX0_framesOf yX0_framesOf, Cond.code yX0_framesOf cX0_framesOf 2 (some .int), Cond.fieldLink RX0 16 "TunedWrens" "framesOfWren" "[I", Cond.methodLink RL 89 yX0_stepOf, Cond.instanceMethod yX0_stepOf, Cond.selects RX0 yX0_stepOf yX0_stepOf, Cond.code yX0_stepOf cX0_stepOf 2 (some .int), Cond.methodLink RX0 59 yX0_requirePitch, Cond.static yX0_requirePitch, Cond.code yX0_requirePitch cX0_requirePitch 1 none, Cond.methodLink RX0 47 yX0_requireRange]
def wsL_areWrensSo_r2 : List Cond := [Cond.static yX0_requireRange, Cond.code yX0_requireRange cX0_requireRange 3 none, Cond.classLink RX0 106 "java/lang/IllegalArgumentException", Cond.initialized "java/lang/IllegalArgumentException", Cond.methodLink RX0 82 yX0_stepAt, Cond.instanceMethod yX0_stepAt, Cond.selects RX0 yX0_stepAt yX0_stepAt, Cond.code yX0_stepAt cX0_stepAt 2 (some .int), Cond.fieldLink RX0 31 "TunedWrens" "scaleKey" "I", Cond.fieldLink RX0 35 "TunedWrens" "scaleMode" "I", Cond.methodLink RX0 129 yX0_stepAbove, Cond.static yX0_stepAbove, Cond.code yX0_stepAbove cX0_stepAbove 6 (some .int), Cond.fieldLink RX0 135 "TunedWrens" "STEPS" "[I", Cond.methodLink RX0 132 yJ9_floorMod_7cf53, Cond.static yJ9_floorMod_7cf53, Cond.initialized RJ9, Cond.code yJ9_floorMod_7cf53 cJ9_floorMod_7cf53 3 (some .int), Cond.methodLink RL 77 yX0_leapsOf, Cond.instanceMethod yX0_leapsOf, Cond.selects RX0 yX0_leapsOf yX0_leapsOf, Cond.code yX0_leapsOf cX0_leapsOf 2 (some .int), Cond.fieldLink RX0 22 "TunedWrens" "leapsOfWren" "[I", Cond.methodLink RL 74 yX0_changesOf]
def wsL_areWrensSo_r3 : List Cond := [Cond.instanceMethod yX0_changesOf, Cond.selects RX0 yX0_changesOf yX0_changesOf, Cond.code yX0_changesOf cX0_changesOf 2 (some .int), Cond.fieldLink RX0 19 "TunedWrens" "changesOfWren" "[I", Cond.methodLink RL 80 yX0_cleanOf, Cond.instanceMethod yX0_cleanOf, Cond.selects RX0 yX0_cleanOf yX0_cleanOf, Cond.code yX0_cleanOf cX0_cleanOf 2 (some .int), Cond.fieldLink RX0 25 "TunedWrens" "cleanOfWren" "[I", Cond.methodLink RL 68 yX0_nudgeOf, Cond.instanceMethod yX0_nudgeOf, Cond.selects RX0 yX0_nudgeOf yX0_nudgeOf, Cond.code yX0_nudgeOf cX0_nudgeOf 2 (some .int), Cond.fieldLink RX0 13 "TunedWrens" "nudgeOfWren" "[I", Cond.methodLink RL 86 yX0_sung, Cond.instanceMethod yX0_sung, Cond.selects RX0 yX0_sung yX0_sung, Cond.code yX0_sung cX0_sung 2 (some .int), Cond.fieldLink RX0 28 "TunedWrens" "framesOfSemitone" "[I"]
def wsL_areWrensSo : List Cond := .code yL_areWrensSo cL_areWrensSo 5 (some .boolean) :: ((wsL_areWrensSo_r1 ++ (wsL_areWrensSo_r2 ++ wsL_areWrensSo_r3)) ++ wsX00 ++ (vx_atS RX0 79 "java/lang/IndexOutOfBoundsException" ["java/lang/RuntimeException", "java/lang/Exception"]).filter goodWord ++ (vx_atS RX0 110 "java/lang/IllegalArgumentException" ["java/lang/RuntimeException", "java/lang/Exception"]).filter goodWord)
def wsL_isScaleSo_r1 : List Cond := [Cond.methodLink RL 58 yX0_rungs, Cond.instanceMethod yX0_rungs, Cond.selects RX0 yX0_rungs yX0_rungs, Cond.initialized RX0, Cond.code yX0_rungs cX0_rungs 3 (some .int), Cond.methodLink RX0 51 yX0_isRung, Cond.instanceMethod yX0_isRung, Cond.selects RX0 yX0_isRung yX0_isRung, Cond.code yX0_isRung cX0_isRung 2 (some .boolean), Cond.methodLink RX0 82 yX0_stepAt, Cond.instanceMethod yX0_stepAt, Cond.selects RX0 yX0_stepAt yX0_stepAt, Cond.code yX0_stepAt cX0_stepAt 2 (some .int), Cond.fieldLink RX0 31 "TunedWrens" "scaleKey" "I", Cond.fieldLink RX0 35 "TunedWrens" "scaleMode" "I", Cond.methodLink RX0 129 yX0_stepAbove, Cond.static yX0_stepAbove, Cond.code yX0_stepAbove cX0_stepAbove 6 (some .int), Cond.fieldLink RX0 135 "TunedWrens" "STEPS" "[I", Cond.methodLink RX0 132 yJ9_floorMod_7cf53, Cond.static yJ9_floorMod_7cf53, Cond.initialized RJ9, Cond.code yJ9_floorMod_7cf53 cJ9_floorMod_7cf53 3 (some .int), Cond.methodLink RL 92 yX0_nearest]
def wsL_isScaleSo_r2 : List Cond := [Cond.instanceMethod yX0_nearest, Cond.selects RX0 yX0_nearest yX0_nearest, Cond.code yX0_nearest cX0_nearest 2 (some .int), Cond.methodLink RX0 59 yX0_requirePitch, Cond.static yX0_requirePitch, Cond.code yX0_requirePitch cX0_requirePitch 1 none, Cond.methodLink RX0 47 yX0_requireRange, Cond.static yX0_requireRange, Cond.code yX0_requireRange cX0_requireRange 3 none, Cond.classLink RX0 106 "java/lang/IllegalArgumentException", Cond.initialized "java/lang/IllegalArgumentException", Cond.methodLink RX0 71 yX0_nearestRung, Cond.instanceMethod yX0_nearestRung, Cond.selects RX0 yX0_nearestRung yX0_nearestRung, Cond.code yX0_nearestRung cX0_nearestRung 4 (some .int), Cond.methodLink RX0 138 yX0_rungNotAbove, Cond.instanceMethod yX0_rungNotAbove, Cond.selects RX0 yX0_rungNotAbove yX0_rungNotAbove, Cond.code yX0_rungNotAbove cX0_rungNotAbove 3 (some .int), Cond.methodLink RX0 141 yX0_rungAbove, Cond.instanceMethod yX0_rungAbove, Cond.selects RX0 yX0_rungAbove yX0_rungAbove, Cond.code yX0_rungAbove cX0_rungAbove 3 (some .int), Cond.methodLink RL 62 yX0_rung]
def wsL_isScaleSo_r3 : List Cond := [Cond.instanceMethod yX0_rung, Cond.selects RX0 yX0_rung yX0_rung, Cond.code yX0_rung cX0_rung 4 (some .int), Cond.classLink RX0 75 "java/lang/IndexOutOfBoundsException", Cond.initialized "java/lang/IndexOutOfBoundsException", Cond.methodLink RL 89 yX0_stepOf, Cond.instanceMethod yX0_stepOf, Cond.selects RX0 yX0_stepOf yX0_stepOf, Cond.code yX0_stepOf cX0_stepOf 2 (some .int)]
def wsL_isScaleSo : List Cond := .code yL_isScaleSo cL_isScaleSo 10 (some .boolean) :: ((wsL_isScaleSo_r1 ++ (wsL_isScaleSo_r2 ++ wsL_isScaleSo_r3)) ++ wsX00 ++ (vx_atS RX0 110 "java/lang/IllegalArgumentException" ["java/lang/RuntimeException", "java/lang/Exception"]).filter goodWord ++ (vx_atS RX0 79 "java/lang/IndexOutOfBoundsException" ["java/lang/RuntimeException", "java/lang/Exception"]).filter goodWord)
def wsL_areKeysSo_r1 : List Cond := [Cond.methodLink RL 95 yX0_bestKey, Cond.instanceMethod yX0_bestKey, Cond.selects RX0 yX0_bestKey yX0_bestKey, Cond.initialized RX0, Cond.code yX0_bestKey cX0_bestKey 6 (some .int), Cond.methodLink RX0 47 yX0_requireRange, Cond.static yX0_requireRange, Cond.code yX0_requireRange cX0_requireRange 3 none, Cond.classLink RX0 106 "java/lang/IllegalArgumentException", Cond.initialized "java/lang/IllegalArgumentException", Cond.methodLink RX0 97 yX0_framesWithin, Cond.instanceMethod yX0_framesWithin, Cond.selects RX0 yX0_framesWithin yX0_framesWithin, Cond.code yX0_framesWithin cX0_framesWithin 5 (some .int), Cond.fieldLink RX0 28 "TunedWrens" "framesOfSemitone" "[I", Cond.methodLink RX0 129 yX0_stepAbove, Cond.static yX0_stepAbove, Cond.code yX0_stepAbove cX0_stepAbove 6 (some .int), Cond.fieldLink RX0 135 "TunedWrens" "STEPS" "[I", Cond.methodLink RX0 132 yJ9_floorMod_7cf53, Cond.static yJ9_floorMod_7cf53, Cond.initialized RJ9, Cond.code yJ9_floorMod_7cf53 cJ9_floorMod_7cf53 3 (some .int), Cond.methodLink RL 98 yX0_within]
def wsL_areKeysSo_r2 : List Cond := [Cond.instanceMethod yX0_within, Cond.selects RX0 yX0_within yX0_within, Cond.code yX0_within cX0_within 3 (some .int), Cond.methodLink RL 71 yX0_framesOf, Cond.instanceMethod yX0_framesOf, Cond.selects RX0 yX0_framesOf yX0_framesOf, Cond.code yX0_framesOf cX0_framesOf 2 (some .int), Cond.fieldLink RX0 16 "TunedWrens" "framesOfWren" "[I", Cond.methodLink RX0 55 yX0_requireWren, Cond.static yX0_requireWren, Cond.code yX0_requireWren cX0_requireWren 1 none, Cond.classLink RX0 75 "java/lang/IndexOutOfBoundsException", Cond.initialized "java/lang/IndexOutOfBoundsException"]
def wsL_areKeysSo : List Cond := .code yL_areKeysSo cL_areKeysSo 8 (some .boolean) :: ((wsL_areKeysSo_r1 ++ wsL_areKeysSo_r2) ++ wsX00 ++ (vx_atS RX0 110 "java/lang/IllegalArgumentException" ["java/lang/RuntimeException", "java/lang/Exception"]).filter goodWord ++ (vx_atS RX0 79 "java/lang/IndexOutOfBoundsException" ["java/lang/RuntimeException", "java/lang/Exception"]).filter goodWord)
def wsL_isNudgedSo_r1 : List Cond := [Cond.methodLink RL 83 yX0_framesToRung, Cond.instanceMethod yX0_framesToRung, Cond.selects RX0 yX0_framesToRung yX0_framesToRung, Cond.initialized RX0, Cond.code yX0_framesToRung cX0_framesToRung 6 (some .int), Cond.fieldLink RX0 9 "TunedWrens" "rungOfWren" "[I", Cond.methodLink RX0 55 yX0_requireWren, Cond.static yX0_requireWren, Cond.code yX0_requireWren cX0_requireWren 1 none, Cond.classLink RX0 75 "java/lang/IndexOutOfBoundsException", Cond.initialized "java/lang/IndexOutOfBoundsException", Cond.methodLink RX0 59 yX0_requirePitch, Cond.static yX0_requirePitch, Cond.code yX0_requirePitch cX0_requirePitch 1 none, Cond.methodLink RX0 47 yX0_requireRange, Cond.static yX0_requireRange, Cond.code yX0_requireRange cX0_requireRange 3 none, Cond.classLink RX0 106 "java/lang/IllegalArgumentException", Cond.initialized "java/lang/IllegalArgumentException", Cond.methodLink RX0 85 yX0_nextRung, Cond.instanceMethod yX0_nextRung, Cond.selects RX0 yX0_nextRung yX0_nextRung, Cond.code yX0_nextRung cX0_nextRung 3 (some .int), Cond.methodLink RX0 120 Lib.Math.abs.name]
def wsL_isNudgedSo_r2 : List Cond := [Cond.static Lib.Math.abs.name, Cond.initialized "java/lang/Math", Cond.code Lib.Math.abs.name Lib.Math.abs.code 1 (some .int), Cond.fieldLink RX0 41 "TunedWrens" "rungLeash" "I", Cond.methodLink RX0 71 yX0_nearestRung, Cond.instanceMethod yX0_nearestRung, Cond.selects RX0 yX0_nearestRung yX0_nearestRung, Cond.code yX0_nearestRung cX0_nearestRung 4 (some .int), Cond.methodLink RX0 138 yX0_rungNotAbove, Cond.instanceMethod yX0_rungNotAbove, Cond.selects RX0 yX0_rungNotAbove yX0_rungNotAbove, Cond.code yX0_rungNotAbove cX0_rungNotAbove 3 (some .int), Cond.methodLink RX0 82 yX0_stepAt, Cond.instanceMethod yX0_stepAt, Cond.selects RX0 yX0_stepAt yX0_stepAt, Cond.code yX0_stepAt cX0_stepAt 2 (some .int), Cond.fieldLink RX0 31 "TunedWrens" "scaleKey" "I", Cond.fieldLink RX0 35 "TunedWrens" "scaleMode" "I", Cond.methodLink RX0 129 yX0_stepAbove, Cond.static yX0_stepAbove, Cond.code yX0_stepAbove cX0_stepAbove 6 (some .int), Cond.fieldLink RX0 135 "TunedWrens" "STEPS" "[I", Cond.methodLink RX0 132 yJ9_floorMod_7cf53, Cond.static yJ9_floorMod_7cf53]
def wsL_isNudgedSo_r3 : List Cond := [Cond.initialized RJ9, Cond.code yJ9_floorMod_7cf53 cJ9_floorMod_7cf53 3 (some .int), Cond.methodLink RX0 141 yX0_rungAbove, Cond.instanceMethod yX0_rungAbove, Cond.selects RX0 yX0_rungAbove yX0_rungAbove, Cond.code yX0_rungAbove cX0_rungAbove 3 (some .int), Cond.methodLink RX0 88 yX0_nextNudge, Cond.instanceMethod yX0_nextNudge, Cond.selects RX0 yX0_nextNudge yX0_nextNudge, Cond.code yX0_nextNudge cX0_nextNudge 4 (some .int), Cond.fieldLink RX0 13 "TunedWrens" "nudgeOfWren" "[I", Cond.methodLink RX0 114 yX0_isLeap, Cond.instanceMethod yX0_isLeap, Cond.selects RX0 yX0_isLeap yX0_isLeap, Cond.code yX0_isLeap cX0_isLeap 3 (some .boolean), Cond.fieldLink RX0 44 "TunedWrens" "leapGlide" "I", Cond.methodLink RX0 111 yX0_isChange, Cond.static yX0_isChange, Cond.code yX0_isChange cX0_isChange 2 (some .boolean), Cond.methodLink RX0 92 yX0_nudgeTowards, Cond.instanceMethod yX0_nudgeTowards, Cond.selects RX0 yX0_nudgeTowards yX0_nudgeTowards, Cond.code yX0_nudgeTowards cX0_nudgeTowards 5 (some .int), Cond.fieldLink RX0 38 "TunedWrens" "nudgeSpeed" "I"]
def wsL_isNudgedSo_r4 : List Cond := [Cond.methodLink RX0 123 Lib.Math.min.name, Cond.static Lib.Math.min.name, Cond.code Lib.Math.min.name Lib.Math.min.code 2 (some .int), Cond.methodLink RX0 126 Lib.Math.max.name, Cond.static Lib.Math.max.name, Cond.code Lib.Math.max.name Lib.Math.max.code 2 (some .int), Cond.methodLink RL 8 yX0_sing, Cond.instanceMethod yX0_sing, Cond.selects RX0 yX0_sing yX0_sing, Cond.code yX0_sing cX0_sing 3 (some .int), Cond.methodLink RX0 62 yX0_singFrame, Cond.instanceMethod yX0_singFrame, Cond.selects RX0 yX0_singFrame yX0_singFrame, Cond.code yX0_singFrame cX0_singFrame 7 (some .int), Cond.fieldLink RX0 16 "TunedWrens" "framesOfWren" "[I", Cond.fieldLink RX0 19 "TunedWrens" "changesOfWren" "[I", Cond.fieldLink RX0 22 "TunedWrens" "leapsOfWren" "[I", Cond.fieldLink RX0 25 "TunedWrens" "cleanOfWren" "[I", Cond.fieldLink RX0 28 "TunedWrens" "framesOfSemitone" "[I", Cond.methodLink RX0 51 yX0_isRung, Cond.instanceMethod yX0_isRung, Cond.selects RX0 yX0_isRung yX0_isRung, Cond.code yX0_isRung cX0_isRung 2 (some .boolean), Cond.methodLink RX0 117 yX0_nearestSemitone]
def wsL_isNudgedSo_r5 : List Cond := [Cond.static yX0_nearestSemitone, Cond.code yX0_nearestSemitone cX0_nearestSemitone 1 (some .int), Cond.methodLink RL 53 yX0_rungOf, Cond.instanceMethod yX0_rungOf, Cond.selects RX0 yX0_rungOf yX0_rungOf, Cond.code yX0_rungOf cX0_rungOf 2 (some .int), Cond.methodLink RL 68 yX0_nudgeOf, Cond.instanceMethod yX0_nudgeOf, Cond.selects RX0 yX0_nudgeOf yX0_nudgeOf, Cond.code yX0_nudgeOf cX0_nudgeOf 2 (some .int)]
def wsL_isNudgedSo : List Cond := .code yL_isNudgedSo cL_isNudgedSo 11 (some .boolean) :: ((wsL_isNudgedSo_r1 ++ (wsL_isNudgedSo_r2 ++ (wsL_isNudgedSo_r3 ++ (wsL_isNudgedSo_r4 ++ wsL_isNudgedSo_r5)))) ++ wsX00 ++ (vx_atS RX0 79 "java/lang/IndexOutOfBoundsException" ["java/lang/RuntimeException", "java/lang/Exception"]).filter goodWord ++ (vx_atS RX0 110 "java/lang/IllegalArgumentException" ["java/lang/RuntimeException", "java/lang/Exception"]).filter goodWord)
def wsL_law0_r1 : List Cond := [Cond.classLink RL 9 RX0, Cond.instantiable RX0 12, Cond.initialized RX0, Cond.constant RL 16 (-99999), Cond.methodLink RL 101 yX0_init, Cond.instanceMethod yX0_init, Cond.code yX0_init cX0_init 1 none, Cond.methodLink RX0 1 objectInit, Cond.instanceMethod objectInit, Cond.code objectInit ⟨#[0xb1]⟩ 1 none, Cond.arrayClass .int, Cond.fieldLink RX0 9 "TunedWrens" "rungOfWren" "[I", Cond.fieldLink RX0 13 "TunedWrens" "nudgeOfWren" "[I", Cond.fieldLink RX0 16 "TunedWrens" "framesOfWren" "[I", Cond.fieldLink RX0 19 "TunedWrens" "changesOfWren" "[I", Cond.fieldLink RX0 22 "TunedWrens" "leapsOfWren" "[I", Cond.fieldLink RX0 25 "TunedWrens" "cleanOfWren" "[I", Cond.fieldLink RX0 28 "TunedWrens" "framesOfSemitone" "[I", Cond.fieldLink RX0 31 "TunedWrens" "scaleKey" "I", Cond.fieldLink RX0 35 "TunedWrens" "scaleMode" "I", Cond.fieldLink RX0 38 "TunedWrens" "nudgeSpeed" "I", Cond.fieldLink RX0 41 "TunedWrens" "rungLeash" "I", Cond.fieldLink RX0 44 "TunedWrens" "leapGlide" "I", Cond.methodLink RL 102 yL_cell]
def wsL_law0_r2 : List Cond := [Cond.static yL_cell, Cond.initialized RL, Cond.code yL_cell cL_cell 2 (some .int), Cond.methodLink RL 106 yL_act, Cond.static yL_act, Cond.code yL_act cL_act 5 (some .int), Cond.methodLink RL 34 yL_low, Cond.static yL_low, Cond.code yL_low cL_low 2 (some .int), Cond.constant RL 7 (2147483647), Cond.methodLink RL 39 yL_scale, Cond.static yL_scale, Cond.codeWith yL_scale cL_scale 4 (some .int) [(0, 6, 7, 17)], Cond.classLink RL 17 "java/lang/IllegalArgumentException", Cond.methodLink RL 27 yX0_setScale, Cond.instanceMethod yX0_setScale, Cond.selects RX0 yX0_setScale yX0_setScale, Cond.code yX0_setScale cX0_setScale 5 (some .int), Cond.methodLink RX0 47 yX0_requireRange, Cond.static yX0_requireRange, Cond.code yX0_requireRange cX0_requireRange 3 none, Cond.classLink RX0 106 "java/lang/IllegalArgumentException", Cond.initialized "java/lang/IllegalArgumentException", Cond.methodLink RX0 51 yX0_isRung]
def wsL_law0_r3 : List Cond := [Cond.instanceMethod yX0_isRung, Cond.selects RX0 yX0_isRung yX0_isRung, Cond.code yX0_isRung cX0_isRung 2 (some .boolean), Cond.methodLink RX0 82 yX0_stepAt, Cond.instanceMethod yX0_stepAt, Cond.selects RX0 yX0_stepAt yX0_stepAt, Cond.code yX0_stepAt cX0_stepAt 2 (some .int), Cond.methodLink RX0 129 yX0_stepAbove, Cond.static yX0_stepAbove, Cond.code yX0_stepAbove cX0_stepAbove 6 (some .int), Cond.fieldLink RX0 135 "TunedWrens" "STEPS" "[I", Cond.methodLink RX0 132 yJ9_floorMod_7cf53, Cond.static yJ9_floorMod_7cf53, Cond.initialized RJ9, Cond.code yJ9_floorMod_7cf53 cJ9_floorMod_7cf53 3 (some .int), Cond.methodLink RL 43 yL_nudge, Cond.static yL_nudge, Cond.codeWith yL_nudge cL_nudge 5 (some .boolean) [(0, 7, 10, 17)], Cond.methodLink RL 30 yX0_setNudging, Cond.instanceMethod yX0_setNudging, Cond.selects RX0 yX0_setNudging yX0_setNudging, Cond.code yX0_setNudging cX0_setNudging 4 none, Cond.methodLink RL 47 yL_rest, Cond.static yL_rest]
def wsL_law0_r4 : List Cond := [Cond.codeWith yL_rest cL_rest 3 (some .int) [(0, 5, 6, 14)], Cond.classLink RL 14 "java/lang/IndexOutOfBoundsException", Cond.methodLink RL 23 yX0_rest, Cond.instanceMethod yX0_rest, Cond.selects RX0 yX0_rest yX0_rest, Cond.code yX0_rest cX0_rest 3 (some .int), Cond.methodLink RX0 55 yX0_requireWren, Cond.static yX0_requireWren, Cond.code yX0_requireWren cX0_requireWren 1 none, Cond.classLink RX0 75 "java/lang/IndexOutOfBoundsException", Cond.initialized "java/lang/IndexOutOfBoundsException", Cond.methodLink RL 50 yL_slide, Cond.static yL_slide, Cond.codeWith yL_slide cL_slide 6 (some .int) [(0, 9, 10, 14), (0, 9, 15, 17)], Cond.methodLink RL 19 yX0_slide, Cond.instanceMethod yX0_slide, Cond.selects RX0 yX0_slide yX0_slide, Cond.code yX0_slide cX0_slide 7 (some .int), Cond.methodLink RX0 59 yX0_requirePitch, Cond.static yX0_requirePitch, Cond.code yX0_requirePitch cX0_requirePitch 1 none, Cond.methodLink RX0 66 yJ9_floorDiv_7cf53, Cond.static yJ9_floorDiv_7cf53, Cond.code yJ9_floorDiv_7cf53 cJ9_floorDiv_7cf53 3 (some .int)]
def wsL_law0_r5 : List Cond := [Cond.methodLink RX0 62 yX0_singFrame, Cond.instanceMethod yX0_singFrame, Cond.selects RX0 yX0_singFrame yX0_singFrame, Cond.code yX0_singFrame cX0_singFrame 7 (some .int), Cond.methodLink RX0 85 yX0_nextRung, Cond.instanceMethod yX0_nextRung, Cond.selects RX0 yX0_nextRung yX0_nextRung, Cond.code yX0_nextRung cX0_nextRung 3 (some .int), Cond.methodLink RX0 120 Lib.Math.abs.name, Cond.static Lib.Math.abs.name, Cond.initialized "java/lang/Math", Cond.code Lib.Math.abs.name Lib.Math.abs.code 1 (some .int), Cond.methodLink RX0 71 yX0_nearestRung, Cond.instanceMethod yX0_nearestRung, Cond.selects RX0 yX0_nearestRung yX0_nearestRung, Cond.code yX0_nearestRung cX0_nearestRung 4 (some .int), Cond.methodLink RX0 138 yX0_rungNotAbove, Cond.instanceMethod yX0_rungNotAbove, Cond.selects RX0 yX0_rungNotAbove yX0_rungNotAbove, Cond.code yX0_rungNotAbove cX0_rungNotAbove 3 (some .int), Cond.methodLink RX0 141 yX0_rungAbove, Cond.instanceMethod yX0_rungAbove, Cond.selects RX0 yX0_rungAbove yX0_rungAbove, Cond.code yX0_rungAbove cX0_rungAbove 3 (some .int)]
def wsL_law0_r6 : List Cond := [Cond.methodLink RX0 88 yX0_nextNudge, Cond.instanceMethod yX0_nextNudge, Cond.selects RX0 yX0_nextNudge yX0_nextNudge, Cond.code yX0_nextNudge cX0_nextNudge 4 (some .int), Cond.methodLink RX0 114 yX0_isLeap, Cond.instanceMethod yX0_isLeap, Cond.selects RX0 yX0_isLeap yX0_isLeap, Cond.code yX0_isLeap cX0_isLeap 3 (some .boolean), Cond.methodLink RX0 111 yX0_isChange, Cond.static yX0_isChange, Cond.code yX0_isChange cX0_isChange 2 (some .boolean), Cond.methodLink RX0 92 yX0_nudgeTowards, Cond.instanceMethod yX0_nudgeTowards, Cond.selects RX0 yX0_nudgeTowards yX0_nudgeTowards, Cond.code yX0_nudgeTowards cX0_nudgeTowards 5 (some .int), Cond.methodLink RX0 123 Lib.Math.min.name, Cond.static Lib.Math.min.name, Cond.code Lib.Math.min.name Lib.Math.min.code 2 (some .int), Cond.methodLink RX0 126 Lib.Math.max.name, Cond.static Lib.Math.max.name, Cond.code Lib.Math.max.name Lib.Math.max.code 2 (some .int), Cond.methodLink RX0 117 yX0_nearestSemitone, Cond.static yX0_nearestSemitone, Cond.code yX0_nearestSemitone cX0_nearestSemitone 1 (some .int)]
def wsL_law0_r7 : List Cond := [Cond.methodLink RL 53 yX0_rungOf, Cond.instanceMethod yX0_rungOf, Cond.selects RX0 yX0_rungOf yX0_rungOf, Cond.code yX0_rungOf cX0_rungOf 2 (some .int), Cond.methodLink RL 56 yL_sing, Cond.static yL_sing, Cond.codeWith yL_sing cL_sing 4 (some .int) [(0, 6, 7, 14), (0, 6, 11, 17)], Cond.methodLink RL 8 yX0_sing, Cond.instanceMethod yX0_sing, Cond.selects RX0 yX0_sing yX0_sing, Cond.code yX0_sing cX0_sing 3 (some .int), Cond.methodLink RL 109 yL_areAlike, Cond.static yL_areAlike, Cond.code yL_areAlike cL_areAlike 4 (some .boolean), Cond.methodLink RL 58 yX0_rungs, Cond.instanceMethod yX0_rungs, Cond.selects RX0 yX0_rungs yX0_rungs, Cond.code yX0_rungs cX0_rungs 3 (some .int), Cond.methodLink RL 62 yX0_rung, Cond.instanceMethod yX0_rung, Cond.selects RX0 yX0_rung yX0_rung, Cond.code yX0_rung cX0_rung 4 (some .int), Cond.methodLink RL 65 yX0_inOctaves, Cond.instanceMethod yX0_inOctaves]
def wsL_law0_r8 : List Cond := [Cond.selects RX0 yX0_inOctaves yX0_inOctaves, Cond.code yX0_inOctaves cX0_inOctaves 4 (some .int), Cond.methodLink RX0 100 yX0_areInOctaves, Cond.static yX0_areInOctaves, Cond.code yX0_areInOctaves cX0_areInOctaves 2 (some .boolean), Cond.methodLink RL 68 yX0_nudgeOf, Cond.instanceMethod yX0_nudgeOf, Cond.selects RX0 yX0_nudgeOf yX0_nudgeOf, Cond.code yX0_nudgeOf cX0_nudgeOf 2 (some .int), Cond.methodLink RL 71 yX0_framesOf, Cond.instanceMethod yX0_framesOf, Cond.selects RX0 yX0_framesOf yX0_framesOf, Cond.code yX0_framesOf cX0_framesOf 2 (some .int), Cond.methodLink RL 74 yX0_changesOf, Cond.instanceMethod yX0_changesOf, Cond.selects RX0 yX0_changesOf yX0_changesOf, Cond.code yX0_changesOf cX0_changesOf 2 (some .int), Cond.methodLink RL 77 yX0_leapsOf, Cond.instanceMethod yX0_leapsOf, Cond.selects RX0 yX0_leapsOf yX0_leapsOf, Cond.code yX0_leapsOf cX0_leapsOf 2 (some .int), Cond.methodLink RL 80 yX0_cleanOf, Cond.instanceMethod yX0_cleanOf, Cond.selects RX0 yX0_cleanOf yX0_cleanOf]
def wsL_law0_r9 : List Cond := [Cond.code yX0_cleanOf cX0_cleanOf 2 (some .int), Cond.methodLink RL 83 yX0_framesToRung, Cond.instanceMethod yX0_framesToRung, Cond.selects RX0 yX0_framesToRung yX0_framesToRung, Cond.code yX0_framesToRung cX0_framesToRung 6 (some .int), Cond.methodLink RL 86 yX0_sung, Cond.instanceMethod yX0_sung, Cond.selects RX0 yX0_sung yX0_sung, Cond.code yX0_sung cX0_sung 2 (some .int), Cond.methodLink RL 113 yL_areWrensSo, Cond.static yL_areWrensSo, Cond.code yL_areWrensSo cL_areWrensSo 5 (some .boolean), Cond.methodLink RL 89 yX0_stepOf, Cond.instanceMethod yX0_stepOf, Cond.selects RX0 yX0_stepOf yX0_stepOf, Cond.code yX0_stepOf cX0_stepOf 2 (some .int), Cond.methodLink RL 117 yL_isScaleSo, Cond.static yL_isScaleSo, Cond.code yL_isScaleSo cL_isScaleSo 10 (some .boolean), Cond.methodLink RL 92 yX0_nearest, Cond.instanceMethod yX0_nearest, Cond.selects RX0 yX0_nearest yX0_nearest, Cond.code yX0_nearest cX0_nearest 2 (some .int), Cond.methodLink RL 121 yL_areKeysSo]
def wsL_law0_r10 : List Cond := [Cond.static yL_areKeysSo, Cond.code yL_areKeysSo cL_areKeysSo 8 (some .boolean), Cond.methodLink RL 95 yX0_bestKey, Cond.instanceMethod yX0_bestKey, Cond.selects RX0 yX0_bestKey yX0_bestKey, Cond.code yX0_bestKey cX0_bestKey 6 (some .int), Cond.methodLink RX0 97 yX0_framesWithin, Cond.instanceMethod yX0_framesWithin, Cond.selects RX0 yX0_framesWithin yX0_framesWithin, Cond.code yX0_framesWithin cX0_framesWithin 5 (some .int), Cond.methodLink RL 98 yX0_within, Cond.instanceMethod yX0_within, Cond.selects RX0 yX0_within yX0_within, Cond.code yX0_within cX0_within 3 (some .int), Cond.methodLink RL 124 yL_isNudgedSo, Cond.static yL_isNudgedSo, Cond.code yL_isNudgedSo cL_isNudgedSo 11 (some .boolean)]
def wsL_law0 : List Cond := (wsL_law0_r1 ++ (wsL_law0_r2 ++ (wsL_law0_r3 ++ (wsL_law0_r4 ++ (wsL_law0_r5 ++ (wsL_law0_r6 ++ (wsL_law0_r7 ++ (wsL_law0_r8 ++ (wsL_law0_r9 ++ wsL_law0_r10))))))))) ++ wsX00 ++ ([] : List Cond)
def wsL_law : List Cond := wsL_law0 ++ (vx_atS RX0 110 "java/lang/IllegalArgumentException" ["java/lang/RuntimeException", "java/lang/Exception"]).filter goodWord ++ (vx_atS RX0 79 "java/lang/IndexOutOfBoundsException" ["java/lang/RuntimeException", "java/lang/Exception"]).filter goodWord
set_option maxRecDepth 20000 in
theorem in_wsL_law0_r1 : ∀ w ∈ wsL_law0_r1, w ∈ lw_tbl := fun w h => (goodIn_p wsL_law0_r1 [24, 27] (by decide +kernel) (by decide +kernel) w h).1
theorem in_wsL_law0_r2 : ∀ w ∈ wsL_law0_r2, w ∈ lw_tbl := fun w h => (goodIn_p wsL_law0_r2 [68, 75, 71, 83, 86] (by decide +kernel) (by decide +kernel) w h).1
theorem in_wsL_law0_r3 : ∀ w ∈ wsL_law0_r3, w ∈ lw_tbl := fun w h => (goodIn_p wsL_law0_r3 [157, 161, 164, 167, 177] (by decide +kernel) (by decide +kernel) w h).1
theorem in_wsL_law0_r4 : ∀ w ∈ wsL_law0_r4, w ∈ lw_tbl := fun w h => (goodIn_p wsL_law0_r4 [185, 188, 211, 214, 217] (by decide +kernel) (by decide +kernel) w h).1
theorem in_wsL_law0_r5 : ∀ w ∈ wsL_law0_r5, w ∈ lw_tbl := fun w h => (goodIn_p wsL_law0_r5 [221, 225, 228, 232, 236, 240] (by decide +kernel) (by decide +kernel) w h).1
theorem in_wsL_law0_r6 : ∀ w ∈ wsL_law0_r6, w ∈ lw_tbl := fun w h => (goodIn_p wsL_law0_r6 [244, 248, 251, 255, 258, 261, 264] (by decide +kernel) (by decide +kernel) w h).1
theorem in_wsL_law0_r7 : ∀ w ∈ wsL_law0_r7, w ∈ lw_tbl := fun w h => (goodIn_p wsL_law0_r7 [268, 275, 278, 282, 286] (by decide +kernel) (by decide +kernel) w h).1
theorem in_wsL_law0_r8 : ∀ w ∈ wsL_law0_r8, w ∈ lw_tbl := fun w h => (goodIn_p wsL_law0_r8 [291, 294, 298, 302, 306, 310] (by decide +kernel) (by decide +kernel) w h).1
theorem in_wsL_law0_r9 : ∀ w ∈ wsL_law0_r9, w ∈ lw_tbl := fun w h => (goodIn_p wsL_law0_r9 [314, 318, 322, 326, 330, 333, 337] (by decide +kernel) (by decide +kernel) w h).1
theorem in_wsL_law0_r10 : ∀ w ∈ wsL_law0_r10, w ∈ lw_tbl := fun w h => (goodIn_p wsL_law0_r10 [340, 344, 348, 352, 355] (by decide +kernel) (by decide +kernel) w h).1
theorem in_wsX00 : ∀ w ∈ wsX00, w ∈ lw_tbl := fun w h => (goodIn_p wsX00 [] (by decide +kernel) (by decide +kernel) w h).1
theorem wsL_law_in0 : ∀ w ∈ wsL_law0, w ∈ lw_tbl := fun w h => (List.mem_append.mp h).elim (fun h => (List.mem_append.mp h).elim (fun h => (List.mem_append.mp h).elim (fun h => in_wsL_law0_r1 w h) (fun h => (List.mem_append.mp h).elim (fun h => in_wsL_law0_r2 w h) (fun h => (List.mem_append.mp h).elim (fun h => in_wsL_law0_r3 w h) (fun h => (List.mem_append.mp h).elim (fun h => in_wsL_law0_r4 w h) (fun h => (List.mem_append.mp h).elim (fun h => in_wsL_law0_r5 w h) (fun h => (List.mem_append.mp h).elim (fun h => in_wsL_law0_r6 w h) (fun h => (List.mem_append.mp h).elim (fun h => in_wsL_law0_r7 w h) (fun h => (List.mem_append.mp h).elim (fun h => in_wsL_law0_r8 w h) (fun h => (List.mem_append.mp h).elim (fun h => in_wsL_law0_r9 w h) (fun h => in_wsL_law0_r10 w h)))))))))) (fun h => in_wsX00 w h)) (fun h => absurd h List.not_mem_nil)
theorem wsL_law_x0 : ∀ w ∈ (vx_atS RX0 110 "java/lang/IllegalArgumentException" ["java/lang/RuntimeException", "java/lang/Exception"]).filter goodWord, w ∈ lw_tbl := by decide +kernel
theorem wsL_law_x1 : ∀ w ∈ (vx_atS RX0 79 "java/lang/IndexOutOfBoundsException" ["java/lang/RuntimeException", "java/lang/Exception"]).filter goodWord, w ∈ lw_tbl := by decide +kernel
theorem wsL_law_in : ∀ w ∈ wsL_law, w ∈ lw_tbl := fun w h => (List.mem_append.mp h).elim (fun h => (List.mem_append.mp h).elim (fun h => wsL_law_in0 w h) (fun h => wsL_law_x0 w h)) (fun h => wsL_law_x1 w h)
theorem inlX0 : ∀ w ∈ wsX00, w ∈ wsL_law := fun _ h => List.mem_append_left _ (List.mem_append_left _ (List.mem_append_left _ (List.mem_append_right _ h)))
theorem inX0 : ∀ w ∈ wsX00, w ∈ lw_tbl := fun w h => wsL_law_in w (inlX0 w h)
theorem inX1 : ∀ w ∈ wsX10, w ∈ lw_tbl := by decide +kernel
theorem inJ9 : ∀ w ∈ wsJ90, w ∈ lw_tbl := by decide +kernel
theorem inJ0 : ∀ w ∈ wsJ00, w ∈ lw_tbl := by decide +kernel
abbrev vwCl : List vw_C := [(RX0, TX0, 12)]
end
section
theorem dX0_init_0 : decode cX0_init 0 = .ok (.aload_n 0, 1) := by decide +kernel
theorem dX0_init_1 : decode cX0_init 1 = .ok (.invokespecial 1, 3) := by decide +kernel
theorem dX0_init_4 : decode cX0_init 4 = .ok (.aload_n 0, 1) := by decide +kernel
theorem dX0_init_5 : decode cX0_init 5 = .ok (.iconst 4, 1) := by decide +kernel
theorem dX0_init_6 : decode cX0_init 6 = .ok (.newarray .int, 2) := by decide +kernel
theorem dX0_init_8 : decode cX0_init 8 = .ok (.dup, 1) := by decide +kernel
theorem dX0_init_9 : decode cX0_init 9 = .ok (.iconst 0, 1) := by decide +kernel
theorem dX0_init_10 : decode cX0_init 10 = .ok (.iconst (-1), 1) := by decide +kernel
theorem dX0_init_11 : decode cX0_init 11 = .ok (.iastore, 1) := by decide +kernel
theorem dX0_init_12 : decode cX0_init 12 = .ok (.dup, 1) := by decide +kernel
theorem dX0_init_13 : decode cX0_init 13 = .ok (.iconst 1, 1) := by decide +kernel
theorem dX0_init_14 : decode cX0_init 14 = .ok (.iconst (-1), 1) := by decide +kernel
theorem dX0_init_15 : decode cX0_init 15 = .ok (.iastore, 1) := by decide +kernel
theorem dX0_init_16 : decode cX0_init 16 = .ok (.dup, 1) := by decide +kernel
theorem dX0_init_17 : decode cX0_init 17 = .ok (.iconst 2, 1) := by decide +kernel
theorem dX0_init_18 : decode cX0_init 18 = .ok (.iconst (-1), 1) := by decide +kernel
theorem dX0_init_19 : decode cX0_init 19 = .ok (.iastore, 1) := by decide +kernel
theorem dX0_init_20 : decode cX0_init 20 = .ok (.dup, 1) := by decide +kernel
theorem dX0_init_21 : decode cX0_init 21 = .ok (.iconst 3, 1) := by decide +kernel
theorem dX0_init_22 : decode cX0_init 22 = .ok (.iconst (-1), 1) := by decide +kernel
theorem dX0_init_23 : decode cX0_init 23 = .ok (.iastore, 1) := by decide +kernel
theorem dX0_init_24 : decode cX0_init 24 = .ok (.putfield 9, 3) := by decide +kernel
theorem dX0_init_27 : decode cX0_init 27 = .ok (.aload_n 0, 1) := by decide +kernel
theorem dX0_init_28 : decode cX0_init 28 = .ok (.iconst 4, 1) := by decide +kernel
theorem dX0_init_29 : decode cX0_init 29 = .ok (.newarray .int, 2) := by decide +kernel
theorem dX0_init_31 : decode cX0_init 31 = .ok (.putfield 13, 3) := by decide +kernel
theorem dX0_init_34 : decode cX0_init 34 = .ok (.aload_n 0, 1) := by decide +kernel
theorem dX0_init_35 : decode cX0_init 35 = .ok (.iconst 4, 1) := by decide +kernel
theorem dX0_init_36 : decode cX0_init 36 = .ok (.newarray .int, 2) := by decide +kernel
theorem dX0_init_38 : decode cX0_init 38 = .ok (.putfield 16, 3) := by decide +kernel
theorem dX0_init_41 : decode cX0_init 41 = .ok (.aload_n 0, 1) := by decide +kernel
theorem dX0_init_42 : decode cX0_init 42 = .ok (.iconst 4, 1) := by decide +kernel
theorem dX0_init_43 : decode cX0_init 43 = .ok (.newarray .int, 2) := by decide +kernel
theorem dX0_init_45 : decode cX0_init 45 = .ok (.putfield 19, 3) := by decide +kernel
theorem dX0_init_48 : decode cX0_init 48 = .ok (.aload_n 0, 1) := by decide +kernel
theorem dX0_init_49 : decode cX0_init 49 = .ok (.iconst 4, 1) := by decide +kernel
theorem dX0_init_50 : decode cX0_init 50 = .ok (.newarray .int, 2) := by decide +kernel
theorem dX0_init_52 : decode cX0_init 52 = .ok (.putfield 22, 3) := by decide +kernel
theorem dX0_init_55 : decode cX0_init 55 = .ok (.aload_n 0, 1) := by decide +kernel
theorem dX0_init_56 : decode cX0_init 56 = .ok (.iconst 4, 1) := by decide +kernel
theorem dX0_init_57 : decode cX0_init 57 = .ok (.newarray .int, 2) := by decide +kernel
theorem dX0_init_59 : decode cX0_init 59 = .ok (.putfield 25, 3) := by decide +kernel
theorem dX0_init_62 : decode cX0_init 62 = .ok (.aload_n 0, 1) := by decide +kernel
theorem dX0_init_63 : decode cX0_init 63 = .ok (.bipush 12, 2) := by decide +kernel
theorem dX0_init_65 : decode cX0_init 65 = .ok (.newarray .int, 2) := by decide +kernel
theorem dX0_init_67 : decode cX0_init 67 = .ok (.putfield 28, 3) := by decide +kernel
theorem dX0_init_70 : decode cX0_init 70 = .ok (.aload_n 0, 1) := by decide +kernel
theorem dX0_init_71 : decode cX0_init 71 = .ok (.iconst 0, 1) := by decide +kernel
theorem dX0_init_72 : decode cX0_init 72 = .ok (.putfield 31, 3) := by decide +kernel
theorem dX0_init_75 : decode cX0_init 75 = .ok (.aload_n 0, 1) := by decide +kernel
theorem dX0_init_76 : decode cX0_init 76 = .ok (.iconst 0, 1) := by decide +kernel
theorem dX0_init_77 : decode cX0_init 77 = .ok (.putfield 35, 3) := by decide +kernel
theorem dX0_init_80 : decode cX0_init 80 = .ok (.aload_n 0, 1) := by decide +kernel
theorem dX0_init_81 : decode cX0_init 81 = .ok (.bipush 100, 2) := by decide +kernel
theorem dX0_init_83 : decode cX0_init 83 = .ok (.putfield 38, 3) := by decide +kernel
theorem dX0_init_86 : decode cX0_init 86 = .ok (.aload_n 0, 1) := by decide +kernel
theorem dX0_init_87 : decode cX0_init 87 = .ok (.bipush 60, 2) := by decide +kernel
theorem dX0_init_89 : decode cX0_init 89 = .ok (.putfield 41, 3) := by decide +kernel
theorem dX0_init_92 : decode cX0_init 92 = .ok (.aload_n 0, 1) := by decide +kernel
theorem dX0_init_93 : decode cX0_init 93 = .ok (.sipush 400, 3) := by decide +kernel
theorem dX0_init_96 : decode cX0_init 96 = .ok (.putfield 44, 3) := by decide +kernel
theorem dX0_init_99 : decode cX0_init 99 = .ok (.return_, 1) := by decide +kernel
set_option maxRecDepth 20000 in
theorem ggX0_setScale_X0_requireRange : GoodIn wsX0_setScale wsX0_requireRange := goodIn_ca (goodIn_r _ [7, 8, 9] (by decide +kernel) (by decide +kernel)) (goodIn_sub (fun _ h => List.mem_cons_of_mem _ (List.mem_append_right _ h)) (by decide +kernel))
set_option maxRecDepth 20000 in
theorem gX0_setScale_X0_requireRange : GoodIn wsX0_setScale (va_wsS RX0 47 yX0_requireRange wsX0_requireRange) := goodIn_app (goodIn_of _ (by decide +kernel)) ggX0_setScale_X0_requireRange
set_option maxRecDepth 20000 in
theorem ggX0_setScale_X0_isRung : GoodIn wsX0_setScale wsX0_isRung := goodIn_r _ [13, 14, 15, 16, 6, 17, 1, 2, 18, 19, 20, 21, 22, 23, 24, 25, 26, 27, 28, 29, 30, 31, 32, 33, 34, 35, 36, 37] (by decide +kernel) (by decide +kernel)
set_option maxRecDepth 20000 in
theorem gX0_setScale_X0_isRung : GoodIn wsX0_setScale (wsV RX0 51 RX0 yX0_isRung wsX0_isRung) := goodIn_app (goodIn_of _ (by decide +kernel)) ggX0_setScale_X0_isRung
theorem dX0_setScale_0 : decode cX0_setScale 0 = .ok (.iload_n 1, 1) := by decide +kernel
theorem dX0_setScale_1 : decode cX0_setScale 1 = .ok (.iconst 0, 1) := by decide +kernel
theorem dX0_setScale_2 : decode cX0_setScale 2 = .ok (.bipush 11, 2) := by decide +kernel
theorem dX0_setScale_4 : decode cX0_setScale 4 = .ok (.invokestatic 47, 3) := by decide +kernel
theorem dX0_setScale_7 : decode cX0_setScale 7 = .ok (.iload_n 2, 1) := by decide +kernel
theorem dX0_setScale_8 : decode cX0_setScale 8 = .ok (.iconst 0, 1) := by decide +kernel
theorem dX0_setScale_9 : decode cX0_setScale 9 = .ok (.bipush 7, 2) := by decide +kernel
theorem dX0_setScale_11 : decode cX0_setScale 11 = .ok (.invokestatic 47, 3) := by decide +kernel
theorem dX0_setScale_14 : decode cX0_setScale 14 = .ok (.aload_n 0, 1) := by decide +kernel
theorem dX0_setScale_15 : decode cX0_setScale 15 = .ok (.iload_n 1, 1) := by decide +kernel
theorem dX0_setScale_16 : decode cX0_setScale 16 = .ok (.putfield 31, 3) := by decide +kernel
theorem dX0_setScale_19 : decode cX0_setScale 19 = .ok (.aload_n 0, 1) := by decide +kernel
theorem dX0_setScale_20 : decode cX0_setScale 20 = .ok (.iload_n 2, 1) := by decide +kernel
theorem dX0_setScale_21 : decode cX0_setScale 21 = .ok (.putfield 35, 3) := by decide +kernel
theorem dX0_setScale_24 : decode cX0_setScale 24 = .ok (.iconst 0, 1) := by decide +kernel
theorem dX0_setScale_25 : decode cX0_setScale 25 = .ok (.istore_n 3, 1) := by decide +kernel
theorem dX0_setScale_26 : decode cX0_setScale 26 = .ok (.iconst 0, 1) := by decide +kernel
theorem dX0_setScale_27 : decode cX0_setScale 27 = .ok (.istore 4, 2) := by decide +kernel
theorem dX0_setScale_29 : decode cX0_setScale 29 = .ok (.iload 4, 2) := by decide +kernel
theorem dX0_setScale_31 : decode cX0_setScale 31 = .ok (.iconst 4, 1) := by decide +kernel
theorem dX0_setScale_32 : decode cX0_setScale 32 = .ok (.if_icmp .ge 45, 3) := by decide +kernel
theorem dX0_setScale_35 : decode cX0_setScale 35 = .ok (.aload_n 0, 1) := by decide +kernel
theorem dX0_setScale_36 : decode cX0_setScale 36 = .ok (.getfield 9, 3) := by decide +kernel
theorem dX0_setScale_39 : decode cX0_setScale 39 = .ok (.iload 4, 2) := by decide +kernel
theorem dX0_setScale_41 : decode cX0_setScale 41 = .ok (.iaload, 1) := by decide +kernel
theorem dX0_setScale_42 : decode cX0_setScale 42 = .ok (.iconst (-1), 1) := by decide +kernel
theorem dX0_setScale_43 : decode cX0_setScale 43 = .ok (.if_icmp .eq 28, 3) := by decide +kernel
theorem dX0_setScale_46 : decode cX0_setScale 46 = .ok (.aload_n 0, 1) := by decide +kernel
theorem dX0_setScale_47 : decode cX0_setScale 47 = .ok (.aload_n 0, 1) := by decide +kernel
theorem dX0_setScale_48 : decode cX0_setScale 48 = .ok (.getfield 9, 3) := by decide +kernel
theorem dX0_setScale_51 : decode cX0_setScale 51 = .ok (.iload 4, 2) := by decide +kernel
theorem dX0_setScale_53 : decode cX0_setScale 53 = .ok (.iaload, 1) := by decide +kernel
theorem dX0_setScale_54 : decode cX0_setScale 54 = .ok (.invokevirtual 51, 3) := by decide +kernel
theorem dX0_setScale_57 : decode cX0_setScale 57 = .ok (.ifCond .ne 14, 3) := by decide +kernel
theorem dX0_setScale_60 : decode cX0_setScale 60 = .ok (.aload_n 0, 1) := by decide +kernel
theorem dX0_setScale_61 : decode cX0_setScale 61 = .ok (.getfield 9, 3) := by decide +kernel
theorem dX0_setScale_64 : decode cX0_setScale 64 = .ok (.iload 4, 2) := by decide +kernel
theorem dX0_setScale_66 : decode cX0_setScale 66 = .ok (.iconst (-1), 1) := by decide +kernel
theorem dX0_setScale_67 : decode cX0_setScale 67 = .ok (.iastore, 1) := by decide +kernel
theorem dX0_setScale_68 : decode cX0_setScale 68 = .ok (.iinc 3 1, 3) := by decide +kernel
theorem dX0_setScale_71 : decode cX0_setScale 71 = .ok (.iinc 4 1, 3) := by decide +kernel
theorem dX0_setScale_74 : decode cX0_setScale 74 = .ok (.goto (-45), 3) := by decide +kernel
theorem dX0_setScale_77 : decode cX0_setScale 77 = .ok (.iload_n 3, 1) := by decide +kernel
theorem dX0_setScale_78 : decode cX0_setScale 78 = .ok (.ireturn, 1) := by decide +kernel
set_option maxRecDepth 20000 in
theorem ggX0_setNudging_X0_requireRange : GoodIn wsX0_setNudging wsX0_requireRange := goodIn_ca (goodIn_r _ [7, 8, 9] (by decide +kernel) (by decide +kernel)) (goodIn_sub (fun _ h => List.mem_cons_of_mem _ (List.mem_append_right _ h)) (by decide +kernel))
set_option maxRecDepth 20000 in
theorem gX0_setNudging_X0_requireRange : GoodIn wsX0_setNudging (va_wsS RX0 47 yX0_requireRange wsX0_requireRange) := goodIn_app (goodIn_of _ (by decide +kernel)) ggX0_setNudging_X0_requireRange
theorem dX0_setNudging_0 : decode cX0_setNudging 0 = .ok (.iload_n 1, 1) := by decide +kernel
theorem dX0_setNudging_1 : decode cX0_setNudging 1 = .ok (.iconst 0, 1) := by decide +kernel
theorem dX0_setNudging_2 : decode cX0_setNudging 2 = .ok (.bipush 100, 2) := by decide +kernel
theorem dX0_setNudging_4 : decode cX0_setNudging 4 = .ok (.invokestatic 47, 3) := by decide +kernel
theorem dX0_setNudging_7 : decode cX0_setNudging 7 = .ok (.iload_n 2, 1) := by decide +kernel
theorem dX0_setNudging_8 : decode cX0_setNudging 8 = .ok (.iconst 0, 1) := by decide +kernel
theorem dX0_setNudging_9 : decode cX0_setNudging 9 = .ok (.sipush 600, 3) := by decide +kernel
theorem dX0_setNudging_12 : decode cX0_setNudging 12 = .ok (.invokestatic 47, 3) := by decide +kernel
theorem dX0_setNudging_15 : decode cX0_setNudging 15 = .ok (.iload_n 3, 1) := by decide +kernel
theorem dX0_setNudging_16 : decode cX0_setNudging 16 = .ok (.iconst 0, 1) := by decide +kernel
theorem dX0_setNudging_17 : decode cX0_setNudging 17 = .ok (.sipush 12000, 3) := by decide +kernel
theorem dX0_setNudging_20 : decode cX0_setNudging 20 = .ok (.invokestatic 47, 3) := by decide +kernel
theorem dX0_setNudging_23 : decode cX0_setNudging 23 = .ok (.aload_n 0, 1) := by decide +kernel
theorem dX0_setNudging_24 : decode cX0_setNudging 24 = .ok (.iload_n 1, 1) := by decide +kernel
theorem dX0_setNudging_25 : decode cX0_setNudging 25 = .ok (.putfield 38, 3) := by decide +kernel
theorem dX0_setNudging_28 : decode cX0_setNudging 28 = .ok (.aload_n 0, 1) := by decide +kernel
theorem dX0_setNudging_29 : decode cX0_setNudging 29 = .ok (.iload_n 2, 1) := by decide +kernel
theorem dX0_setNudging_30 : decode cX0_setNudging 30 = .ok (.putfield 41, 3) := by decide +kernel
theorem dX0_setNudging_33 : decode cX0_setNudging 33 = .ok (.aload_n 0, 1) := by decide +kernel
theorem dX0_setNudging_34 : decode cX0_setNudging 34 = .ok (.iload_n 3, 1) := by decide +kernel
theorem dX0_setNudging_35 : decode cX0_setNudging 35 = .ok (.putfield 44, 3) := by decide +kernel
theorem dX0_setNudging_38 : decode cX0_setNudging 38 = .ok (.return_, 1) := by decide +kernel
set_option maxRecDepth 20000 in
theorem ggX0_sing_X0_requireWren : GoodIn wsX0_sing wsX0_requireWren := goodIn_ca (goodIn_r _ [4, 5, 6] (by decide +kernel) (by decide +kernel)) (goodIn_sub (fun _ h => List.mem_cons_of_mem _ (List.mem_append_left _ (List.mem_append_right _ h))) (by decide +kernel))
set_option maxRecDepth 20000 in
theorem gX0_sing_X0_requireWren : GoodIn wsX0_sing (va_wsS RX0 55 yX0_requireWren wsX0_requireWren) := goodIn_app (goodIn_of _ (by decide +kernel)) ggX0_sing_X0_requireWren
set_option maxRecDepth 20000 in
theorem ggX0_sing_X0_requirePitch : GoodIn wsX0_sing wsX0_requirePitch := goodIn_ca (goodIn_r _ [9, 10, 11, 3, 12, 13, 14] (by decide +kernel) (by decide +kernel)) (goodIn_sub (fun _ h => List.mem_cons_of_mem _ (List.mem_append_right _ h)) (by decide +kernel))
set_option maxRecDepth 20000 in
theorem gX0_sing_X0_requirePitch : GoodIn wsX0_sing (va_wsS RX0 59 yX0_requirePitch wsX0_requirePitch) := goodIn_app (goodIn_of _ (by decide +kernel)) ggX0_sing_X0_requirePitch
set_option maxRecDepth 20000 in
theorem ggX0_sing_X0_singFrame : GoodIn wsX0_sing wsX0_singFrame := goodIn_r _ [18, 19, 20, 21, 22, 23, 24, 25, 26, 27, 28, 3, 29, 30, 31, 32, 33, 34, 35, 36, 37, 38, 39, 40, 41, 42, 43, 44, 45, 46, 47, 48, 49, 50, 51, 52, 53, 54, 55, 56, 57, 58, 59, 60, 61, 62, 63, 64, 65, 66, 67, 68, 69, 70, 71, 72, 73, 74, 75, 76, 77, 78, 79, 80, 81, 82, 83, 84, 85, 86, 87, 88, 89, 90, 91, 92, 93, 94, 95, 96, 97, 98, 99, 100, 101, 102] (by decide +kernel) (by decide +kernel)
set_option maxRecDepth 20000 in
theorem gX0_sing_X0_singFrame : GoodIn wsX0_sing (wsV RX0 62 RX0 yX0_singFrame wsX0_singFrame) := goodIn_app (goodIn_of _ (by decide +kernel)) ggX0_sing_X0_singFrame
theorem dX0_sing_0 : decode cX0_sing 0 = .ok (.iload_n 1, 1) := by decide +kernel
theorem dX0_sing_1 : decode cX0_sing 1 = .ok (.invokestatic 55, 3) := by decide +kernel
theorem dX0_sing_4 : decode cX0_sing 4 = .ok (.iload_n 2, 1) := by decide +kernel
theorem dX0_sing_5 : decode cX0_sing 5 = .ok (.invokestatic 59, 3) := by decide +kernel
theorem dX0_sing_8 : decode cX0_sing 8 = .ok (.aload_n 0, 1) := by decide +kernel
theorem dX0_sing_9 : decode cX0_sing 9 = .ok (.iload_n 1, 1) := by decide +kernel
theorem dX0_sing_10 : decode cX0_sing 10 = .ok (.iload_n 2, 1) := by decide +kernel
theorem dX0_sing_11 : decode cX0_sing 11 = .ok (.invokevirtual 62, 3) := by decide +kernel
theorem dX0_sing_14 : decode cX0_sing 14 = .ok (.ireturn, 1) := by decide +kernel
set_option maxRecDepth 20000 in
theorem ggX0_slide_X0_requireWren : GoodIn wsX0_slide wsX0_requireWren := goodIn_ca (goodIn_r _ [5, 6, 7] (by decide +kernel) (by decide +kernel)) (goodIn_sub (fun _ h => List.mem_cons_of_mem _ (List.mem_append_left _ (List.mem_append_right _ h))) (by decide +kernel))
set_option maxRecDepth 20000 in
theorem gX0_slide_X0_requireWren : GoodIn wsX0_slide (va_wsS RX0 55 yX0_requireWren wsX0_requireWren) := goodIn_app (goodIn_of _ (by decide +kernel)) ggX0_slide_X0_requireWren
set_option maxRecDepth 20000 in
theorem ggX0_slide_X0_requirePitch : GoodIn wsX0_slide wsX0_requirePitch := goodIn_ca (goodIn_r _ [10, 11, 12, 4, 13, 14, 15] (by decide +kernel) (by decide +kernel)) (goodIn_sub (fun _ h => List.mem_cons_of_mem _ (List.mem_append_right _ h)) (by decide +kernel))
set_option maxRecDepth 20000 in
theorem gX0_slide_X0_requirePitch : GoodIn wsX0_slide (va_wsS RX0 59 yX0_requirePitch wsX0_requirePitch) := goodIn_app (goodIn_of _ (by decide +kernel)) ggX0_slide_X0_requirePitch
set_option maxRecDepth 20000 in
theorem ggX0_slide_X0_requireRange : GoodIn wsX0_slide wsX0_requireRange := goodIn_ca (goodIn_r _ [13, 14, 15] (by decide +kernel) (by decide +kernel)) (goodIn_sub (fun _ h => List.mem_cons_of_mem _ (List.mem_append_right _ h)) (by decide +kernel))
set_option maxRecDepth 20000 in
theorem gX0_slide_X0_requireRange : GoodIn wsX0_slide (va_wsS RX0 47 yX0_requireRange wsX0_requireRange) := goodIn_app (goodIn_of _ (by decide +kernel)) ggX0_slide_X0_requireRange
set_option maxRecDepth 20000 in
theorem ggX0_slide_J9_floorDiv_7cf53 : GoodIn wsX0_slide wsJ9_floorDiv_7cf53 := goodIn_r _ [19] (by decide +kernel) (by decide +kernel)
set_option maxRecDepth 20000 in
theorem gX0_slide_J9_floorDiv_7cf53 : GoodIn wsX0_slide (va_wsS RX0 66 yJ9_floorDiv_7cf53 wsJ9_floorDiv_7cf53) := goodIn_app (goodIn_of _ (by decide +kernel)) ggX0_slide_J9_floorDiv_7cf53
set_option maxRecDepth 20000 in
theorem ggX0_slide_X0_singFrame : GoodIn wsX0_slide wsX0_singFrame := goodIn_r _ [23, 24, 25, 26, 1, 27, 28, 29, 30, 31, 32, 4, 33, 34, 35, 36, 37, 38, 39, 40, 41, 42, 43, 44, 45, 46, 47, 48, 49, 50, 51, 52, 53, 54, 55, 56, 57, 58, 18, 59, 60, 61, 62, 63, 64, 65, 66, 67, 68, 69, 70, 71, 72, 73, 74, 75, 76, 77, 78, 79, 80, 81, 82, 83, 84, 85, 86, 87, 88, 89, 90, 91, 92, 93, 94, 95, 96, 97, 98, 99, 100, 101, 102, 103, 104, 105] (by decide +kernel) (by decide +kernel)
set_option maxRecDepth 20000 in
theorem gX0_slide_X0_singFrame : GoodIn wsX0_slide (wsV RX0 62 RX0 yX0_singFrame wsX0_singFrame) := goodIn_app (goodIn_of _ (by decide +kernel)) ggX0_slide_X0_singFrame
theorem dX0_slide_0 : decode cX0_slide 0 = .ok (.iload_n 1, 1) := by decide +kernel
theorem dX0_slide_1 : decode cX0_slide 1 = .ok (.invokestatic 55, 3) := by decide +kernel
theorem dX0_slide_4 : decode cX0_slide 4 = .ok (.iload_n 2, 1) := by decide +kernel
theorem dX0_slide_5 : decode cX0_slide 5 = .ok (.invokestatic 59, 3) := by decide +kernel
theorem dX0_slide_8 : decode cX0_slide 8 = .ok (.iload_n 3, 1) := by decide +kernel
theorem dX0_slide_9 : decode cX0_slide 9 = .ok (.invokestatic 59, 3) := by decide +kernel
theorem dX0_slide_12 : decode cX0_slide 12 = .ok (.iload 4, 2) := by decide +kernel
theorem dX0_slide_14 : decode cX0_slide 14 = .ok (.iconst 2, 1) := by decide +kernel
theorem dX0_slide_15 : decode cX0_slide 15 = .ok (.bipush 50, 2) := by decide +kernel
theorem dX0_slide_17 : decode cX0_slide 17 = .ok (.invokestatic 47, 3) := by decide +kernel
theorem dX0_slide_20 : decode cX0_slide 20 = .ok (.aload_n 0, 1) := by decide +kernel
theorem dX0_slide_21 : decode cX0_slide 21 = .ok (.getfield 19, 3) := by decide +kernel
theorem dX0_slide_24 : decode cX0_slide 24 = .ok (.iload_n 1, 1) := by decide +kernel
theorem dX0_slide_25 : decode cX0_slide 25 = .ok (.iaload, 1) := by decide +kernel
theorem dX0_slide_26 : decode cX0_slide 26 = .ok (.istore 5, 2) := by decide +kernel
theorem dX0_slide_28 : decode cX0_slide 28 = .ok (.iconst 0, 1) := by decide +kernel
theorem dX0_slide_29 : decode cX0_slide 29 = .ok (.istore 6, 2) := by decide +kernel
theorem dX0_slide_31 : decode cX0_slide 31 = .ok (.iload 6, 2) := by decide +kernel
theorem dX0_slide_33 : decode cX0_slide 33 = .ok (.iload 4, 2) := by decide +kernel
theorem dX0_slide_35 : decode cX0_slide 35 = .ok (.if_icmp .ge 30, 3) := by decide +kernel
theorem dX0_slide_38 : decode cX0_slide 38 = .ok (.aload_n 0, 1) := by decide +kernel
theorem dX0_slide_39 : decode cX0_slide 39 = .ok (.iload_n 1, 1) := by decide +kernel
theorem dX0_slide_40 : decode cX0_slide 40 = .ok (.iload_n 2, 1) := by decide +kernel
theorem dX0_slide_41 : decode cX0_slide 41 = .ok (.iload_n 3, 1) := by decide +kernel
theorem dX0_slide_42 : decode cX0_slide 42 = .ok (.iload_n 2, 1) := by decide +kernel
theorem dX0_slide_43 : decode cX0_slide 43 = .ok (.isub, 1) := by decide +kernel
theorem dX0_slide_44 : decode cX0_slide 44 = .ok (.iload 6, 2) := by decide +kernel
theorem dX0_slide_46 : decode cX0_slide 46 = .ok (.imul, 1) := by decide +kernel
theorem dX0_slide_47 : decode cX0_slide 47 = .ok (.iload 4, 2) := by decide +kernel
theorem dX0_slide_49 : decode cX0_slide 49 = .ok (.iconst 1, 1) := by decide +kernel
theorem dX0_slide_50 : decode cX0_slide 50 = .ok (.isub, 1) := by decide +kernel
theorem dX0_slide_51 : decode cX0_slide 51 = .ok (.invokestatic 66, 3) := by decide +kernel
theorem dX0_slide_54 : decode cX0_slide 54 = .ok (.iadd, 1) := by decide +kernel
theorem dX0_slide_55 : decode cX0_slide 55 = .ok (.invokevirtual 62, 3) := by decide +kernel
theorem dX0_slide_58 : decode cX0_slide 58 = .ok (.pop, 1) := by decide +kernel
theorem dX0_slide_59 : decode cX0_slide 59 = .ok (.iinc 6 1, 3) := by decide +kernel
theorem dX0_slide_62 : decode cX0_slide 62 = .ok (.goto (-31), 3) := by decide +kernel
theorem dX0_slide_65 : decode cX0_slide 65 = .ok (.aload_n 0, 1) := by decide +kernel
theorem dX0_slide_66 : decode cX0_slide 66 = .ok (.getfield 19, 3) := by decide +kernel
theorem dX0_slide_69 : decode cX0_slide 69 = .ok (.iload_n 1, 1) := by decide +kernel
theorem dX0_slide_70 : decode cX0_slide 70 = .ok (.iaload, 1) := by decide +kernel
theorem dX0_slide_71 : decode cX0_slide 71 = .ok (.iload 5, 2) := by decide +kernel
theorem dX0_slide_73 : decode cX0_slide 73 = .ok (.isub, 1) := by decide +kernel
theorem dX0_slide_74 : decode cX0_slide 74 = .ok (.ireturn, 1) := by decide +kernel
set_option maxRecDepth 20000 in
theorem ggX0_rest_X0_requireWren : GoodIn wsX0_rest wsX0_requireWren := goodIn_ca (goodIn_r _ [6, 7, 8] (by decide +kernel) (by decide +kernel)) (goodIn_sub (fun _ h => List.mem_cons_of_mem _ (List.mem_append_right _ h)) (by decide +kernel))
set_option maxRecDepth 20000 in
theorem gX0_rest_X0_requireWren : GoodIn wsX0_rest (va_wsS RX0 55 yX0_requireWren wsX0_requireWren) := goodIn_app (goodIn_of _ (by decide +kernel)) ggX0_rest_X0_requireWren
theorem dX0_rest_0 : decode cX0_rest 0 = .ok (.iload_n 1, 1) := by decide +kernel
theorem dX0_rest_1 : decode cX0_rest 1 = .ok (.invokestatic 55, 3) := by decide +kernel
theorem dX0_rest_4 : decode cX0_rest 4 = .ok (.aload_n 0, 1) := by decide +kernel
theorem dX0_rest_5 : decode cX0_rest 5 = .ok (.getfield 9, 3) := by decide +kernel
theorem dX0_rest_8 : decode cX0_rest 8 = .ok (.iload_n 1, 1) := by decide +kernel
theorem dX0_rest_9 : decode cX0_rest 9 = .ok (.iaload, 1) := by decide +kernel
theorem dX0_rest_10 : decode cX0_rest 10 = .ok (.istore_n 2, 1) := by decide +kernel
theorem dX0_rest_11 : decode cX0_rest 11 = .ok (.aload_n 0, 1) := by decide +kernel
theorem dX0_rest_12 : decode cX0_rest 12 = .ok (.getfield 9, 3) := by decide +kernel
theorem dX0_rest_15 : decode cX0_rest 15 = .ok (.iload_n 1, 1) := by decide +kernel
theorem dX0_rest_16 : decode cX0_rest 16 = .ok (.iconst (-1), 1) := by decide +kernel
theorem dX0_rest_17 : decode cX0_rest 17 = .ok (.iastore, 1) := by decide +kernel
theorem dX0_rest_18 : decode cX0_rest 18 = .ok (.aload_n 0, 1) := by decide +kernel
theorem dX0_rest_19 : decode cX0_rest 19 = .ok (.getfield 13, 3) := by decide +kernel
theorem dX0_rest_22 : decode cX0_rest 22 = .ok (.iload_n 1, 1) := by decide +kernel
theorem dX0_rest_23 : decode cX0_rest 23 = .ok (.iconst 0, 1) := by decide +kernel
theorem dX0_rest_24 : decode cX0_rest 24 = .ok (.iastore, 1) := by decide +kernel
theorem dX0_rest_25 : decode cX0_rest 25 = .ok (.iload_n 2, 1) := by decide +kernel
theorem dX0_rest_26 : decode cX0_rest 26 = .ok (.ireturn, 1) := by decide +kernel
set_option maxRecDepth 20000 in
theorem ggX0_rungs_X0_isRung : GoodIn wsX0_rungs wsX0_isRung := goodIn_r _ [5, 6, 7, 8, 4, 9, 10, 11, 12, 13, 14, 15, 16, 17, 18, 19, 20, 21, 22, 23, 24, 25, 26, 27, 28, 29, 30, 31] (by decide +kernel) (by decide +kernel)
set_option maxRecDepth 20000 in
theorem gX0_rungs_X0_isRung : GoodIn wsX0_rungs (wsV RX0 51 RX0 yX0_isRung wsX0_isRung) := goodIn_app (goodIn_of _ (by decide +kernel)) ggX0_rungs_X0_isRung
theorem dX0_rungs_0 : decode cX0_rungs 0 = .ok (.iconst 0, 1) := by decide +kernel
theorem dX0_rungs_1 : decode cX0_rungs 1 = .ok (.istore_n 1, 1) := by decide +kernel
theorem dX0_rungs_2 : decode cX0_rungs 2 = .ok (.iconst 0, 1) := by decide +kernel
theorem dX0_rungs_3 : decode cX0_rungs 3 = .ok (.istore_n 2, 1) := by decide +kernel
theorem dX0_rungs_4 : decode cX0_rungs 4 = .ok (.iload_n 2, 1) := by decide +kernel
theorem dX0_rungs_5 : decode cX0_rungs 5 = .ok (.sipush 12000, 3) := by decide +kernel
theorem dX0_rungs_8 : decode cX0_rungs 8 = .ok (.if_icmp .gt 20, 3) := by decide +kernel
theorem dX0_rungs_11 : decode cX0_rungs 11 = .ok (.aload_n 0, 1) := by decide +kernel
theorem dX0_rungs_12 : decode cX0_rungs 12 = .ok (.iload_n 2, 1) := by decide +kernel
theorem dX0_rungs_13 : decode cX0_rungs 13 = .ok (.invokevirtual 51, 3) := by decide +kernel
theorem dX0_rungs_16 : decode cX0_rungs 16 = .ok (.ifCond .eq 6, 3) := by decide +kernel
theorem dX0_rungs_19 : decode cX0_rungs 19 = .ok (.iinc 1 1, 3) := by decide +kernel
theorem dX0_rungs_22 : decode cX0_rungs 22 = .ok (.iinc 2 100, 3) := by decide +kernel
theorem dX0_rungs_25 : decode cX0_rungs 25 = .ok (.goto (-21), 3) := by decide +kernel
theorem dX0_rungs_28 : decode cX0_rungs 28 = .ok (.iload_n 1, 1) := by decide +kernel
theorem dX0_rungs_29 : decode cX0_rungs 29 = .ok (.ireturn, 1) := by decide +kernel
set_option maxRecDepth 20000 in
theorem ggX0_nearest_X0_requirePitch : GoodIn wsX0_nearest wsX0_requirePitch := goodIn_ca (goodIn_r _ [4, 5, 6, 3, 7, 8, 9] (by decide +kernel) (by decide +kernel)) (goodIn_sub (fun _ h => List.mem_cons_of_mem _ (List.mem_append_right _ h)) (by decide +kernel))
set_option maxRecDepth 20000 in
theorem gX0_nearest_X0_requirePitch : GoodIn wsX0_nearest (va_wsS RX0 59 yX0_requirePitch wsX0_requirePitch) := goodIn_app (goodIn_of _ (by decide +kernel)) ggX0_nearest_X0_requirePitch
set_option maxRecDepth 20000 in
theorem ggX0_nearest_X0_nearestRung : GoodIn wsX0_nearest wsX0_nearestRung := goodIn_r _ [13, 14, 15, 16, 3, 17, 18, 19, 20, 21, 22, 23, 24, 25, 26, 27, 28, 29, 30, 31, 32, 33, 34, 35, 36, 37, 38, 39, 40, 41, 42, 43, 44, 45, 46, 47] (by decide +kernel) (by decide +kernel)
set_option maxRecDepth 20000 in
theorem gX0_nearest_X0_nearestRung : GoodIn wsX0_nearest (wsV RX0 71 RX0 yX0_nearestRung wsX0_nearestRung) := goodIn_app (goodIn_of _ (by decide +kernel)) ggX0_nearest_X0_nearestRung
theorem dX0_nearest_0 : decode cX0_nearest 0 = .ok (.iload_n 1, 1) := by decide +kernel
theorem dX0_nearest_1 : decode cX0_nearest 1 = .ok (.invokestatic 59, 3) := by decide +kernel
theorem dX0_nearest_4 : decode cX0_nearest 4 = .ok (.aload_n 0, 1) := by decide +kernel
theorem dX0_nearest_5 : decode cX0_nearest 5 = .ok (.iload_n 1, 1) := by decide +kernel
theorem dX0_nearest_6 : decode cX0_nearest 6 = .ok (.invokevirtual 71, 3) := by decide +kernel
theorem dX0_nearest_9 : decode cX0_nearest 9 = .ok (.ireturn, 1) := by decide +kernel
set_option maxRecDepth 20000 in
theorem ggX0_rung_X0_isRung : GoodIn wsX0_rung wsX0_isRung := goodIn_r _ [7, 8, 9, 10, 6, 11, 12, 13, 14, 15, 16, 17, 18, 19, 20, 21, 22, 23, 24, 25, 26, 27, 28, 29, 30, 31, 32, 33] (by decide +kernel) (by decide +kernel)
set_option maxRecDepth 20000 in
theorem gX0_rung_X0_isRung : GoodIn wsX0_rung (wsV RX0 51 RX0 yX0_isRung wsX0_isRung) := goodIn_app (goodIn_of _ (by decide +kernel)) ggX0_rung_X0_isRung
theorem dX0_rung_0 : decode cX0_rung 0 = .ok (.iconst 0, 1) := by decide +kernel
theorem dX0_rung_1 : decode cX0_rung 1 = .ok (.istore_n 2, 1) := by decide +kernel
theorem dX0_rung_2 : decode cX0_rung 2 = .ok (.iconst 0, 1) := by decide +kernel
theorem dX0_rung_3 : decode cX0_rung 3 = .ok (.istore_n 3, 1) := by decide +kernel
theorem dX0_rung_4 : decode cX0_rung 4 = .ok (.iload_n 3, 1) := by decide +kernel
theorem dX0_rung_5 : decode cX0_rung 5 = .ok (.sipush 12000, 3) := by decide +kernel
theorem dX0_rung_8 : decode cX0_rung 8 = .ok (.if_icmp .gt 27, 3) := by decide +kernel
theorem dX0_rung_11 : decode cX0_rung 11 = .ok (.aload_n 0, 1) := by decide +kernel
theorem dX0_rung_12 : decode cX0_rung 12 = .ok (.iload_n 3, 1) := by decide +kernel
theorem dX0_rung_13 : decode cX0_rung 13 = .ok (.invokevirtual 51, 3) := by decide +kernel
theorem dX0_rung_16 : decode cX0_rung 16 = .ok (.ifCond .eq 13, 3) := by decide +kernel
theorem dX0_rung_19 : decode cX0_rung 19 = .ok (.iload_n 2, 1) := by decide +kernel
theorem dX0_rung_20 : decode cX0_rung 20 = .ok (.iload_n 1, 1) := by decide +kernel
theorem dX0_rung_21 : decode cX0_rung 21 = .ok (.if_icmp .ne 5, 3) := by decide +kernel
theorem dX0_rung_24 : decode cX0_rung 24 = .ok (.iload_n 3, 1) := by decide +kernel
theorem dX0_rung_25 : decode cX0_rung 25 = .ok (.ireturn, 1) := by decide +kernel
theorem dX0_rung_26 : decode cX0_rung 26 = .ok (.iinc 2 1, 3) := by decide +kernel
theorem dX0_rung_29 : decode cX0_rung 29 = .ok (.iinc 3 100, 3) := by decide +kernel
theorem dX0_rung_32 : decode cX0_rung 32 = .ok (.goto (-28), 3) := by decide +kernel
theorem dX0_rung_35 : decode cX0_rung 35 = .ok (.new 75, 3) := by decide +kernel
theorem dX0_rung_38 : decode cX0_rung 38 = .ok (.dup, 1) := by decide +kernel
theorem dX0_rung_39 : decode cX0_rung 39 = .ok (.ldc 77, 2) := by decide +kernel
theorem dX0_rung_41 : decode cX0_rung 41 = .ok (.invokespecial 79, 3) := by decide +kernel
theorem dX0_rung_44 : decode cX0_rung 44 = .ok (.athrow, 1) := by decide +kernel
set_option maxRecDepth 20000 in
theorem ggX0_stepOf_X0_requirePitch : GoodIn wsX0_stepOf wsX0_requirePitch := goodIn_ca (goodIn_r _ [4, 5, 6, 3, 7, 8, 9] (by decide +kernel) (by decide +kernel)) (goodIn_sub (fun _ h => List.mem_cons_of_mem _ (List.mem_append_right _ h)) (by decide +kernel))
set_option maxRecDepth 20000 in
theorem gX0_stepOf_X0_requirePitch : GoodIn wsX0_stepOf (va_wsS RX0 59 yX0_requirePitch wsX0_requirePitch) := goodIn_app (goodIn_of _ (by decide +kernel)) ggX0_stepOf_X0_requirePitch
set_option maxRecDepth 20000 in
theorem ggX0_stepOf_X0_stepAt : GoodIn wsX0_stepOf wsX0_stepAt := goodIn_r _ [13, 14, 15, 16, 17, 3, 18, 19, 20, 21, 22, 23, 24, 25, 26, 27, 28, 29, 30, 31, 32, 33, 34, 35] (by decide +kernel) (by decide +kernel)
set_option maxRecDepth 20000 in
theorem gX0_stepOf_X0_stepAt : GoodIn wsX0_stepOf (wsV RX0 82 RX0 yX0_stepAt wsX0_stepAt) := goodIn_app (goodIn_of _ (by decide +kernel)) ggX0_stepOf_X0_stepAt
theorem dX0_stepOf_0 : decode cX0_stepOf 0 = .ok (.iload_n 1, 1) := by decide +kernel
theorem dX0_stepOf_1 : decode cX0_stepOf 1 = .ok (.invokestatic 59, 3) := by decide +kernel
theorem dX0_stepOf_4 : decode cX0_stepOf 4 = .ok (.aload_n 0, 1) := by decide +kernel
theorem dX0_stepOf_5 : decode cX0_stepOf 5 = .ok (.iload_n 1, 1) := by decide +kernel
theorem dX0_stepOf_6 : decode cX0_stepOf 6 = .ok (.invokevirtual 82, 3) := by decide +kernel
theorem dX0_stepOf_9 : decode cX0_stepOf 9 = .ok (.ireturn, 1) := by decide +kernel
set_option maxRecDepth 20000 in
theorem ggX0_rungOf_X0_requireWren : GoodIn wsX0_rungOf wsX0_requireWren := goodIn_ca (goodIn_r _ [5, 6, 7] (by decide +kernel) (by decide +kernel)) (goodIn_sub (fun _ h => List.mem_cons_of_mem _ (List.mem_append_right _ h)) (by decide +kernel))
set_option maxRecDepth 20000 in
theorem gX0_rungOf_X0_requireWren : GoodIn wsX0_rungOf (va_wsS RX0 55 yX0_requireWren wsX0_requireWren) := goodIn_app (goodIn_of _ (by decide +kernel)) ggX0_rungOf_X0_requireWren
theorem dX0_rungOf_0 : decode cX0_rungOf 0 = .ok (.iload_n 1, 1) := by decide +kernel
theorem dX0_rungOf_1 : decode cX0_rungOf 1 = .ok (.invokestatic 55, 3) := by decide +kernel
theorem dX0_rungOf_4 : decode cX0_rungOf 4 = .ok (.aload_n 0, 1) := by decide +kernel
theorem dX0_rungOf_5 : decode cX0_rungOf 5 = .ok (.getfield 9, 3) := by decide +kernel
theorem dX0_rungOf_8 : decode cX0_rungOf 8 = .ok (.iload_n 1, 1) := by decide +kernel
theorem dX0_rungOf_9 : decode cX0_rungOf 9 = .ok (.iaload, 1) := by decide +kernel
theorem dX0_rungOf_10 : decode cX0_rungOf 10 = .ok (.ireturn, 1) := by decide +kernel
set_option maxRecDepth 20000 in
theorem ggX0_nudgeOf_X0_requireWren : GoodIn wsX0_nudgeOf wsX0_requireWren := goodIn_ca (goodIn_r _ [5, 6, 7] (by decide +kernel) (by decide +kernel)) (goodIn_sub (fun _ h => List.mem_cons_of_mem _ (List.mem_append_right _ h)) (by decide +kernel))
set_option maxRecDepth 20000 in
theorem gX0_nudgeOf_X0_requireWren : GoodIn wsX0_nudgeOf (va_wsS RX0 55 yX0_requireWren wsX0_requireWren) := goodIn_app (goodIn_of _ (by decide +kernel)) ggX0_nudgeOf_X0_requireWren
theorem dX0_nudgeOf_0 : decode cX0_nudgeOf 0 = .ok (.iload_n 1, 1) := by decide +kernel
theorem dX0_nudgeOf_1 : decode cX0_nudgeOf 1 = .ok (.invokestatic 55, 3) := by decide +kernel
theorem dX0_nudgeOf_4 : decode cX0_nudgeOf 4 = .ok (.aload_n 0, 1) := by decide +kernel
theorem dX0_nudgeOf_5 : decode cX0_nudgeOf 5 = .ok (.getfield 13, 3) := by decide +kernel
theorem dX0_nudgeOf_8 : decode cX0_nudgeOf 8 = .ok (.iload_n 1, 1) := by decide +kernel
theorem dX0_nudgeOf_9 : decode cX0_nudgeOf 9 = .ok (.iaload, 1) := by decide +kernel
theorem dX0_nudgeOf_10 : decode cX0_nudgeOf 10 = .ok (.ireturn, 1) := by decide +kernel
set_option maxRecDepth 20000 in
theorem ggX0_framesOf_X0_requireWren : GoodIn wsX0_framesOf wsX0_requireWren := goodIn_ca (goodIn_r _ [5, 6, 7] (by decide +kernel) (by decide +kernel)) (goodIn_sub (fun _ h => List.mem_cons_of_mem _ (List.mem_append_right _ h)) (by decide +kernel))
set_option maxRecDepth 20000 in
theorem gX0_framesOf_X0_requireWren : GoodIn wsX0_framesOf (va_wsS RX0 55 yX0_requireWren wsX0_requireWren) := goodIn_app (goodIn_of _ (by decide +kernel)) ggX0_framesOf_X0_requireWren
theorem dX0_framesOf_0 : decode cX0_framesOf 0 = .ok (.iload_n 1, 1) := by decide +kernel
theorem dX0_framesOf_1 : decode cX0_framesOf 1 = .ok (.invokestatic 55, 3) := by decide +kernel
theorem dX0_framesOf_4 : decode cX0_framesOf 4 = .ok (.aload_n 0, 1) := by decide +kernel
theorem dX0_framesOf_5 : decode cX0_framesOf 5 = .ok (.getfield 16, 3) := by decide +kernel
theorem dX0_framesOf_8 : decode cX0_framesOf 8 = .ok (.iload_n 1, 1) := by decide +kernel
theorem dX0_framesOf_9 : decode cX0_framesOf 9 = .ok (.iaload, 1) := by decide +kernel
theorem dX0_framesOf_10 : decode cX0_framesOf 10 = .ok (.ireturn, 1) := by decide +kernel
set_option maxRecDepth 20000 in
theorem ggX0_changesOf_X0_requireWren : GoodIn wsX0_changesOf wsX0_requireWren := goodIn_ca (goodIn_r _ [5, 6, 7] (by decide +kernel) (by decide +kernel)) (goodIn_sub (fun _ h => List.mem_cons_of_mem _ (List.mem_append_right _ h)) (by decide +kernel))
set_option maxRecDepth 20000 in
theorem gX0_changesOf_X0_requireWren : GoodIn wsX0_changesOf (va_wsS RX0 55 yX0_requireWren wsX0_requireWren) := goodIn_app (goodIn_of _ (by decide +kernel)) ggX0_changesOf_X0_requireWren
theorem dX0_changesOf_0 : decode cX0_changesOf 0 = .ok (.iload_n 1, 1) := by decide +kernel
theorem dX0_changesOf_1 : decode cX0_changesOf 1 = .ok (.invokestatic 55, 3) := by decide +kernel
theorem dX0_changesOf_4 : decode cX0_changesOf 4 = .ok (.aload_n 0, 1) := by decide +kernel
theorem dX0_changesOf_5 : decode cX0_changesOf 5 = .ok (.getfield 19, 3) := by decide +kernel
theorem dX0_changesOf_8 : decode cX0_changesOf 8 = .ok (.iload_n 1, 1) := by decide +kernel
theorem dX0_changesOf_9 : decode cX0_changesOf 9 = .ok (.iaload, 1) := by decide +kernel
theorem dX0_changesOf_10 : decode cX0_changesOf 10 = .ok (.ireturn, 1) := by decide +kernel
set_option maxRecDepth 20000 in
theorem ggX0_leapsOf_X0_requireWren : GoodIn wsX0_leapsOf wsX0_requireWren := goodIn_ca (goodIn_r _ [5, 6, 7] (by decide +kernel) (by decide +kernel)) (goodIn_sub (fun _ h => List.mem_cons_of_mem _ (List.mem_append_right _ h)) (by decide +kernel))
set_option maxRecDepth 20000 in
theorem gX0_leapsOf_X0_requireWren : GoodIn wsX0_leapsOf (va_wsS RX0 55 yX0_requireWren wsX0_requireWren) := goodIn_app (goodIn_of _ (by decide +kernel)) ggX0_leapsOf_X0_requireWren
theorem dX0_leapsOf_0 : decode cX0_leapsOf 0 = .ok (.iload_n 1, 1) := by decide +kernel
theorem dX0_leapsOf_1 : decode cX0_leapsOf 1 = .ok (.invokestatic 55, 3) := by decide +kernel
theorem dX0_leapsOf_4 : decode cX0_leapsOf 4 = .ok (.aload_n 0, 1) := by decide +kernel
theorem dX0_leapsOf_5 : decode cX0_leapsOf 5 = .ok (.getfield 22, 3) := by decide +kernel
theorem dX0_leapsOf_8 : decode cX0_leapsOf 8 = .ok (.iload_n 1, 1) := by decide +kernel
theorem dX0_leapsOf_9 : decode cX0_leapsOf 9 = .ok (.iaload, 1) := by decide +kernel
theorem dX0_leapsOf_10 : decode cX0_leapsOf 10 = .ok (.ireturn, 1) := by decide +kernel
set_option maxRecDepth 20000 in
theorem ggX0_cleanOf_X0_requireWren : GoodIn wsX0_cleanOf wsX0_requireWren := goodIn_ca (goodIn_r _ [5, 6, 7] (by decide +kernel) (by decide +kernel)) (goodIn_sub (fun _ h => List.mem_cons_of_mem _ (List.mem_append_right _ h)) (by decide +kernel))
set_option maxRecDepth 20000 in
theorem gX0_cleanOf_X0_requireWren : GoodIn wsX0_cleanOf (va_wsS RX0 55 yX0_requireWren wsX0_requireWren) := goodIn_app (goodIn_of _ (by decide +kernel)) ggX0_cleanOf_X0_requireWren
theorem dX0_cleanOf_0 : decode cX0_cleanOf 0 = .ok (.iload_n 1, 1) := by decide +kernel
theorem dX0_cleanOf_1 : decode cX0_cleanOf 1 = .ok (.invokestatic 55, 3) := by decide +kernel
theorem dX0_cleanOf_4 : decode cX0_cleanOf 4 = .ok (.aload_n 0, 1) := by decide +kernel
theorem dX0_cleanOf_5 : decode cX0_cleanOf 5 = .ok (.getfield 25, 3) := by decide +kernel
theorem dX0_cleanOf_8 : decode cX0_cleanOf 8 = .ok (.iload_n 1, 1) := by decide +kernel
theorem dX0_cleanOf_9 : decode cX0_cleanOf 9 = .ok (.iaload, 1) := by decide +kernel
theorem dX0_cleanOf_10 : decode cX0_cleanOf 10 = .ok (.ireturn, 1) := by decide +kernel
set_option maxRecDepth 20000 in
theorem ggX0_framesToRung_X0_requireWren : GoodIn wsX0_framesToRung wsX0_requireWren := goodIn_ca (goodIn_r _ [5, 6, 7] (by decide +kernel) (by decide +kernel)) (goodIn_sub (fun _ h => List.mem_cons_of_mem _ (List.mem_append_left _ (List.mem_append_right _ h))) (by decide +kernel))
set_option maxRecDepth 20000 in
theorem gX0_framesToRung_X0_requireWren : GoodIn wsX0_framesToRung (va_wsS RX0 55 yX0_requireWren wsX0_requireWren) := goodIn_app (goodIn_of _ (by decide +kernel)) ggX0_framesToRung_X0_requireWren
set_option maxRecDepth 20000 in
theorem ggX0_framesToRung_X0_requirePitch : GoodIn wsX0_framesToRung wsX0_requirePitch := goodIn_ca (goodIn_r _ [10, 11, 12, 4, 13, 14, 15] (by decide +kernel) (by decide +kernel)) (goodIn_sub (fun _ h => List.mem_cons_of_mem _ (List.mem_append_right _ h)) (by decide +kernel))
set_option maxRecDepth 20000 in
theorem gX0_framesToRung_X0_requirePitch : GoodIn wsX0_framesToRung (va_wsS RX0 59 yX0_requirePitch wsX0_requirePitch) := goodIn_app (goodIn_of _ (by decide +kernel)) ggX0_framesToRung_X0_requirePitch
set_option maxRecDepth 20000 in
theorem ggX0_framesToRung_X0_nextRung : GoodIn wsX0_framesToRung wsX0_nextRung := goodIn_r _ [19, 20, 21, 22, 23, 24, 25, 26, 27, 4, 28, 29, 30, 31, 32, 33, 34, 35, 36, 37, 38, 39, 40, 41, 42, 43, 44, 45, 46, 47, 48, 49, 50, 75, 76, 77, 78, 79, 80, 81, 82, 83, 84, 85, 86] (by decide +kernel) (by decide +kernel)
set_option maxRecDepth 20000 in
theorem gX0_framesToRung_X0_nextRung : GoodIn wsX0_framesToRung (wsV RX0 85 RX0 yX0_nextRung wsX0_nextRung) := goodIn_app (goodIn_of _ (by decide +kernel)) ggX0_framesToRung_X0_nextRung
set_option maxRecDepth 20000 in
theorem ggX0_framesToRung_X0_nextNudge : GoodIn wsX0_framesToRung wsX0_nextNudge := goodIn_r _ [54, 1, 55, 56, 57, 58, 4, 59, 20, 21, 22, 23, 60, 61, 62, 63, 64, 65, 66, 67, 68, 69, 70, 71, 72, 73, 74, 75, 76, 77, 78, 79, 80, 81, 82, 83, 84, 85, 86] (by decide +kernel) (by decide +kernel)
set_option maxRecDepth 20000 in
theorem gX0_framesToRung_X0_nextNudge : GoodIn wsX0_framesToRung (wsV RX0 88 RX0 yX0_nextNudge wsX0_nextNudge) := goodIn_app (goodIn_of _ (by decide +kernel)) ggX0_framesToRung_X0_nextNudge
set_option maxRecDepth 20000 in
theorem ggX0_framesToRung_X0_nudgeTowards : GoodIn wsX0_framesToRung wsX0_nudgeTowards := goodIn_r _ [67, 68, 69, 70, 22, 71, 72, 73, 74, 75, 76, 77, 78, 79, 80, 81, 82, 83, 84, 85, 86] (by decide +kernel) (by decide +kernel)
set_option maxRecDepth 20000 in
theorem gX0_framesToRung_X0_nudgeTowards : GoodIn wsX0_framesToRung (wsV RX0 92 RX0 yX0_nudgeTowards wsX0_nudgeTowards) := goodIn_app (goodIn_of _ (by decide +kernel)) ggX0_framesToRung_X0_nudgeTowards
theorem dX0_framesToRung_0 : decode cX0_framesToRung 0 = .ok (.iload_n 1, 1) := by decide +kernel
theorem dX0_framesToRung_1 : decode cX0_framesToRung 1 = .ok (.invokestatic 55, 3) := by decide +kernel
theorem dX0_framesToRung_4 : decode cX0_framesToRung 4 = .ok (.iload_n 2, 1) := by decide +kernel
theorem dX0_framesToRung_5 : decode cX0_framesToRung 5 = .ok (.invokestatic 59, 3) := by decide +kernel
theorem dX0_framesToRung_8 : decode cX0_framesToRung 8 = .ok (.aload_n 0, 1) := by decide +kernel
theorem dX0_framesToRung_9 : decode cX0_framesToRung 9 = .ok (.aload_n 0, 1) := by decide +kernel
theorem dX0_framesToRung_10 : decode cX0_framesToRung 10 = .ok (.getfield 9, 3) := by decide +kernel
theorem dX0_framesToRung_13 : decode cX0_framesToRung 13 = .ok (.iload_n 1, 1) := by decide +kernel
theorem dX0_framesToRung_14 : decode cX0_framesToRung 14 = .ok (.iaload, 1) := by decide +kernel
theorem dX0_framesToRung_15 : decode cX0_framesToRung 15 = .ok (.iload_n 2, 1) := by decide +kernel
theorem dX0_framesToRung_16 : decode cX0_framesToRung 16 = .ok (.invokevirtual 85, 3) := by decide +kernel
theorem dX0_framesToRung_19 : decode cX0_framesToRung 19 = .ok (.istore_n 3, 1) := by decide +kernel
theorem dX0_framesToRung_20 : decode cX0_framesToRung 20 = .ok (.aload_n 0, 1) := by decide +kernel
theorem dX0_framesToRung_21 : decode cX0_framesToRung 21 = .ok (.iload_n 1, 1) := by decide +kernel
theorem dX0_framesToRung_22 : decode cX0_framesToRung 22 = .ok (.iload_n 3, 1) := by decide +kernel
theorem dX0_framesToRung_23 : decode cX0_framesToRung 23 = .ok (.iload_n 2, 1) := by decide +kernel
theorem dX0_framesToRung_24 : decode cX0_framesToRung 24 = .ok (.invokevirtual 88, 3) := by decide +kernel
theorem dX0_framesToRung_27 : decode cX0_framesToRung 27 = .ok (.istore 4, 2) := by decide +kernel
theorem dX0_framesToRung_29 : decode cX0_framesToRung 29 = .ok (.iconst 1, 1) := by decide +kernel
theorem dX0_framesToRung_30 : decode cX0_framesToRung 30 = .ok (.istore 5, 2) := by decide +kernel
theorem dX0_framesToRung_32 : decode cX0_framesToRung 32 = .ok (.iload 5, 2) := by decide +kernel
theorem dX0_framesToRung_34 : decode cX0_framesToRung 34 = .ok (.sipush 999, 3) := by decide +kernel
theorem dX0_framesToRung_37 : decode cX0_framesToRung 37 = .ok (.if_icmp .gt 31, 3) := by decide +kernel
theorem dX0_framesToRung_40 : decode cX0_framesToRung 40 = .ok (.iload_n 2, 1) := by decide +kernel
theorem dX0_framesToRung_41 : decode cX0_framesToRung 41 = .ok (.iload 4, 2) := by decide +kernel
theorem dX0_framesToRung_43 : decode cX0_framesToRung 43 = .ok (.iadd, 1) := by decide +kernel
theorem dX0_framesToRung_44 : decode cX0_framesToRung 44 = .ok (.iload_n 3, 1) := by decide +kernel
theorem dX0_framesToRung_45 : decode cX0_framesToRung 45 = .ok (.if_icmp .ne 6, 3) := by decide +kernel
theorem dX0_framesToRung_48 : decode cX0_framesToRung 48 = .ok (.iload 5, 2) := by decide +kernel
theorem dX0_framesToRung_50 : decode cX0_framesToRung 50 = .ok (.ireturn, 1) := by decide +kernel
theorem dX0_framesToRung_51 : decode cX0_framesToRung 51 = .ok (.aload_n 0, 1) := by decide +kernel
theorem dX0_framesToRung_52 : decode cX0_framesToRung 52 = .ok (.iload 4, 2) := by decide +kernel
theorem dX0_framesToRung_54 : decode cX0_framesToRung 54 = .ok (.iload_n 3, 1) := by decide +kernel
theorem dX0_framesToRung_55 : decode cX0_framesToRung 55 = .ok (.iload_n 2, 1) := by decide +kernel
theorem dX0_framesToRung_56 : decode cX0_framesToRung 56 = .ok (.isub, 1) := by decide +kernel
theorem dX0_framesToRung_57 : decode cX0_framesToRung 57 = .ok (.invokevirtual 92, 3) := by decide +kernel
theorem dX0_framesToRung_60 : decode cX0_framesToRung 60 = .ok (.istore 4, 2) := by decide +kernel
theorem dX0_framesToRung_62 : decode cX0_framesToRung 62 = .ok (.iinc 5 1, 3) := by decide +kernel
theorem dX0_framesToRung_65 : decode cX0_framesToRung 65 = .ok (.goto (-33), 3) := by decide +kernel
theorem dX0_framesToRung_68 : decode cX0_framesToRung 68 = .ok (.iconst (-1), 1) := by decide +kernel
theorem dX0_framesToRung_69 : decode cX0_framesToRung 69 = .ok (.ireturn, 1) := by decide +kernel
theorem dX0_sung_0 : decode cX0_sung 0 = .ok (.iload_n 1, 1) := by decide +kernel
theorem dX0_sung_1 : decode cX0_sung 1 = .ok (.ifCond .lt 9, 3) := by decide +kernel
theorem dX0_sung_4 : decode cX0_sung 4 = .ok (.iload_n 1, 1) := by decide +kernel
theorem dX0_sung_5 : decode cX0_sung 5 = .ok (.bipush 12, 2) := by decide +kernel
theorem dX0_sung_7 : decode cX0_sung 7 = .ok (.if_icmp .lt 13, 3) := by decide +kernel
theorem dX0_sung_10 : decode cX0_sung 10 = .ok (.new 75, 3) := by decide +kernel
theorem dX0_sung_13 : decode cX0_sung 13 = .ok (.dup, 1) := by decide +kernel
theorem dX0_sung_14 : decode cX0_sung 14 = .ok (.ldc 95, 2) := by decide +kernel
theorem dX0_sung_16 : decode cX0_sung 16 = .ok (.invokespecial 79, 3) := by decide +kernel
theorem dX0_sung_19 : decode cX0_sung 19 = .ok (.athrow, 1) := by decide +kernel
theorem dX0_sung_20 : decode cX0_sung 20 = .ok (.aload_n 0, 1) := by decide +kernel
theorem dX0_sung_21 : decode cX0_sung 21 = .ok (.getfield 28, 3) := by decide +kernel
theorem dX0_sung_24 : decode cX0_sung 24 = .ok (.iload_n 1, 1) := by decide +kernel
theorem dX0_sung_25 : decode cX0_sung 25 = .ok (.iaload, 1) := by decide +kernel
theorem dX0_sung_26 : decode cX0_sung 26 = .ok (.ireturn, 1) := by decide +kernel
set_option maxRecDepth 20000 in
theorem ggX0_bestKey_X0_requireRange : GoodIn wsX0_bestKey wsX0_requireRange := goodIn_ca (goodIn_r _ [4, 5, 6] (by decide +kernel) (by decide +kernel)) (goodIn_sub (fun _ h => List.mem_cons_of_mem _ (List.mem_append_right _ h)) (by decide +kernel))
set_option maxRecDepth 20000 in
theorem gX0_bestKey_X0_requireRange : GoodIn wsX0_bestKey (va_wsS RX0 47 yX0_requireRange wsX0_requireRange) := goodIn_app (goodIn_of _ (by decide +kernel)) ggX0_bestKey_X0_requireRange
set_option maxRecDepth 20000 in
theorem ggX0_bestKey_X0_framesWithin : GoodIn wsX0_bestKey wsX0_framesWithin := goodIn_r _ [10, 11, 12, 13, 3, 14, 15, 16, 17, 18, 19, 20, 21, 22, 23, 24, 25, 26, 27, 28, 29, 30, 31] (by decide +kernel) (by decide +kernel)
set_option maxRecDepth 20000 in
theorem gX0_bestKey_X0_framesWithin : GoodIn wsX0_bestKey (wsV RX0 97 RX0 yX0_framesWithin wsX0_framesWithin) := goodIn_app (goodIn_of _ (by decide +kernel)) ggX0_bestKey_X0_framesWithin
theorem dX0_bestKey_0 : decode cX0_bestKey 0 = .ok (.iload_n 1, 1) := by decide +kernel
theorem dX0_bestKey_1 : decode cX0_bestKey 1 = .ok (.iconst 0, 1) := by decide +kernel
theorem dX0_bestKey_2 : decode cX0_bestKey 2 = .ok (.bipush 7, 2) := by decide +kernel
theorem dX0_bestKey_4 : decode cX0_bestKey 4 = .ok (.invokestatic 47, 3) := by decide +kernel
theorem dX0_bestKey_7 : decode cX0_bestKey 7 = .ok (.iconst 0, 1) := by decide +kernel
theorem dX0_bestKey_8 : decode cX0_bestKey 8 = .ok (.istore_n 2, 1) := by decide +kernel
theorem dX0_bestKey_9 : decode cX0_bestKey 9 = .ok (.aload_n 0, 1) := by decide +kernel
theorem dX0_bestKey_10 : decode cX0_bestKey 10 = .ok (.iconst 0, 1) := by decide +kernel
theorem dX0_bestKey_11 : decode cX0_bestKey 11 = .ok (.iload_n 1, 1) := by decide +kernel
theorem dX0_bestKey_12 : decode cX0_bestKey 12 = .ok (.invokevirtual 97, 3) := by decide +kernel
theorem dX0_bestKey_15 : decode cX0_bestKey 15 = .ok (.istore_n 3, 1) := by decide +kernel
theorem dX0_bestKey_16 : decode cX0_bestKey 16 = .ok (.iconst 1, 1) := by decide +kernel
theorem dX0_bestKey_17 : decode cX0_bestKey 17 = .ok (.istore 4, 2) := by decide +kernel
theorem dX0_bestKey_19 : decode cX0_bestKey 19 = .ok (.iload 4, 2) := by decide +kernel
theorem dX0_bestKey_21 : decode cX0_bestKey 21 = .ok (.bipush 12, 2) := by decide +kernel
theorem dX0_bestKey_23 : decode cX0_bestKey 23 = .ok (.if_icmp .ge 30, 3) := by decide +kernel
theorem dX0_bestKey_26 : decode cX0_bestKey 26 = .ok (.aload_n 0, 1) := by decide +kernel
theorem dX0_bestKey_27 : decode cX0_bestKey 27 = .ok (.iload 4, 2) := by decide +kernel
theorem dX0_bestKey_29 : decode cX0_bestKey 29 = .ok (.iload_n 1, 1) := by decide +kernel
theorem dX0_bestKey_30 : decode cX0_bestKey 30 = .ok (.invokevirtual 97, 3) := by decide +kernel
theorem dX0_bestKey_33 : decode cX0_bestKey 33 = .ok (.istore 5, 2) := by decide +kernel
theorem dX0_bestKey_35 : decode cX0_bestKey 35 = .ok (.iload 5, 2) := by decide +kernel
theorem dX0_bestKey_37 : decode cX0_bestKey 37 = .ok (.iload_n 3, 1) := by decide +kernel
theorem dX0_bestKey_38 : decode cX0_bestKey 38 = .ok (.if_icmp .le 9, 3) := by decide +kernel
theorem dX0_bestKey_41 : decode cX0_bestKey 41 = .ok (.iload 4, 2) := by decide +kernel
theorem dX0_bestKey_43 : decode cX0_bestKey 43 = .ok (.istore_n 2, 1) := by decide +kernel
theorem dX0_bestKey_44 : decode cX0_bestKey 44 = .ok (.iload 5, 2) := by decide +kernel
theorem dX0_bestKey_46 : decode cX0_bestKey 46 = .ok (.istore_n 3, 1) := by decide +kernel
theorem dX0_bestKey_47 : decode cX0_bestKey 47 = .ok (.iinc 4 1, 3) := by decide +kernel
theorem dX0_bestKey_50 : decode cX0_bestKey 50 = .ok (.goto (-31), 3) := by decide +kernel
theorem dX0_bestKey_53 : decode cX0_bestKey 53 = .ok (.iload_n 2, 1) := by decide +kernel
theorem dX0_bestKey_54 : decode cX0_bestKey 54 = .ok (.ireturn, 1) := by decide +kernel
set_option maxRecDepth 20000 in
theorem ggX0_within_X0_requireRange : GoodIn wsX0_within wsX0_requireRange := goodIn_ca (goodIn_r _ [4, 5, 6] (by decide +kernel) (by decide +kernel)) (goodIn_sub (fun _ h => List.mem_cons_of_mem _ (List.mem_append_right _ h)) (by decide +kernel))
set_option maxRecDepth 20000 in
theorem gX0_within_X0_requireRange : GoodIn wsX0_within (va_wsS RX0 47 yX0_requireRange wsX0_requireRange) := goodIn_app (goodIn_of _ (by decide +kernel)) ggX0_within_X0_requireRange
set_option maxRecDepth 20000 in
theorem ggX0_within_X0_framesWithin : GoodIn wsX0_within wsX0_framesWithin := goodIn_r _ [10, 11, 12, 13, 3, 14, 15, 16, 17, 18, 19, 20, 21, 22, 23, 24, 25, 26, 27, 28, 29, 30, 31] (by decide +kernel) (by decide +kernel)
set_option maxRecDepth 20000 in
theorem gX0_within_X0_framesWithin : GoodIn wsX0_within (wsV RX0 97 RX0 yX0_framesWithin wsX0_framesWithin) := goodIn_app (goodIn_of _ (by decide +kernel)) ggX0_within_X0_framesWithin
theorem dX0_within_0 : decode cX0_within 0 = .ok (.iload_n 1, 1) := by decide +kernel
theorem dX0_within_1 : decode cX0_within 1 = .ok (.iconst 0, 1) := by decide +kernel
theorem dX0_within_2 : decode cX0_within 2 = .ok (.bipush 11, 2) := by decide +kernel
theorem dX0_within_4 : decode cX0_within 4 = .ok (.invokestatic 47, 3) := by decide +kernel
theorem dX0_within_7 : decode cX0_within 7 = .ok (.iload_n 2, 1) := by decide +kernel
theorem dX0_within_8 : decode cX0_within 8 = .ok (.iconst 0, 1) := by decide +kernel
theorem dX0_within_9 : decode cX0_within 9 = .ok (.bipush 7, 2) := by decide +kernel
theorem dX0_within_11 : decode cX0_within 11 = .ok (.invokestatic 47, 3) := by decide +kernel
theorem dX0_within_14 : decode cX0_within 14 = .ok (.aload_n 0, 1) := by decide +kernel
theorem dX0_within_15 : decode cX0_within 15 = .ok (.iload_n 1, 1) := by decide +kernel
theorem dX0_within_16 : decode cX0_within 16 = .ok (.iload_n 2, 1) := by decide +kernel
theorem dX0_within_17 : decode cX0_within 17 = .ok (.invokevirtual 97, 3) := by decide +kernel
theorem dX0_within_20 : decode cX0_within 20 = .ok (.ireturn, 1) := by decide +kernel
set_option maxRecDepth 20000 in
theorem ggX0_inOctaves_X0_areInOctaves : GoodIn wsX0_inOctaves wsX0_areInOctaves := goodIn_r _ [5] (by decide +kernel) (by decide +kernel)
set_option maxRecDepth 20000 in
theorem gX0_inOctaves_X0_areInOctaves : GoodIn wsX0_inOctaves (va_wsS RX0 100 yX0_areInOctaves wsX0_areInOctaves) := goodIn_app (goodIn_of _ (by decide +kernel)) ggX0_inOctaves_X0_areInOctaves
theorem dX0_inOctaves_0 : decode cX0_inOctaves 0 = .ok (.iconst 0, 1) := by decide +kernel
theorem dX0_inOctaves_1 : decode cX0_inOctaves 1 = .ok (.istore_n 1, 1) := by decide +kernel
theorem dX0_inOctaves_2 : decode cX0_inOctaves 2 = .ok (.iconst 0, 1) := by decide +kernel
theorem dX0_inOctaves_3 : decode cX0_inOctaves 3 = .ok (.istore_n 2, 1) := by decide +kernel
theorem dX0_inOctaves_4 : decode cX0_inOctaves 4 = .ok (.iload_n 2, 1) := by decide +kernel
theorem dX0_inOctaves_5 : decode cX0_inOctaves 5 = .ok (.iconst 4, 1) := by decide +kernel
theorem dX0_inOctaves_6 : decode cX0_inOctaves 6 = .ok (.if_icmp .ge 45, 3) := by decide +kernel
theorem dX0_inOctaves_9 : decode cX0_inOctaves 9 = .ok (.iload_n 2, 1) := by decide +kernel
theorem dX0_inOctaves_10 : decode cX0_inOctaves 10 = .ok (.iconst 1, 1) := by decide +kernel
theorem dX0_inOctaves_11 : decode cX0_inOctaves 11 = .ok (.iadd, 1) := by decide +kernel
theorem dX0_inOctaves_12 : decode cX0_inOctaves 12 = .ok (.istore_n 3, 1) := by decide +kernel
theorem dX0_inOctaves_13 : decode cX0_inOctaves 13 = .ok (.iload_n 3, 1) := by decide +kernel
theorem dX0_inOctaves_14 : decode cX0_inOctaves 14 = .ok (.iconst 4, 1) := by decide +kernel
theorem dX0_inOctaves_15 : decode cX0_inOctaves 15 = .ok (.if_icmp .ge 30, 3) := by decide +kernel
theorem dX0_inOctaves_18 : decode cX0_inOctaves 18 = .ok (.aload_n 0, 1) := by decide +kernel
theorem dX0_inOctaves_19 : decode cX0_inOctaves 19 = .ok (.getfield 9, 3) := by decide +kernel
theorem dX0_inOctaves_22 : decode cX0_inOctaves 22 = .ok (.iload_n 2, 1) := by decide +kernel
theorem dX0_inOctaves_23 : decode cX0_inOctaves 23 = .ok (.iaload, 1) := by decide +kernel
theorem dX0_inOctaves_24 : decode cX0_inOctaves 24 = .ok (.aload_n 0, 1) := by decide +kernel
theorem dX0_inOctaves_25 : decode cX0_inOctaves 25 = .ok (.getfield 9, 3) := by decide +kernel
theorem dX0_inOctaves_28 : decode cX0_inOctaves 28 = .ok (.iload_n 3, 1) := by decide +kernel
theorem dX0_inOctaves_29 : decode cX0_inOctaves 29 = .ok (.iaload, 1) := by decide +kernel
theorem dX0_inOctaves_30 : decode cX0_inOctaves 30 = .ok (.invokestatic 100, 3) := by decide +kernel
theorem dX0_inOctaves_33 : decode cX0_inOctaves 33 = .ok (.ifCond .eq 6, 3) := by decide +kernel
theorem dX0_inOctaves_36 : decode cX0_inOctaves 36 = .ok (.iinc 1 1, 3) := by decide +kernel
theorem dX0_inOctaves_39 : decode cX0_inOctaves 39 = .ok (.iinc 3 1, 3) := by decide +kernel
theorem dX0_inOctaves_42 : decode cX0_inOctaves 42 = .ok (.goto (-29), 3) := by decide +kernel
theorem dX0_inOctaves_45 : decode cX0_inOctaves 45 = .ok (.iinc 2 1, 3) := by decide +kernel
theorem dX0_inOctaves_48 : decode cX0_inOctaves 48 = .ok (.goto (-44), 3) := by decide +kernel
theorem dX0_inOctaves_51 : decode cX0_inOctaves 51 = .ok (.iload_n 1, 1) := by decide +kernel
theorem dX0_inOctaves_52 : decode cX0_inOctaves 52 = .ok (.ireturn, 1) := by decide +kernel
theorem dX0_requireWren_0 : decode cX0_requireWren 0 = .ok (.iload_n 0, 1) := by decide +kernel
theorem dX0_requireWren_1 : decode cX0_requireWren 1 = .ok (.ifCond .lt 8, 3) := by decide +kernel
theorem dX0_requireWren_4 : decode cX0_requireWren 4 = .ok (.iload_n 0, 1) := by decide +kernel
theorem dX0_requireWren_5 : decode cX0_requireWren 5 = .ok (.iconst 4, 1) := by decide +kernel
theorem dX0_requireWren_6 : decode cX0_requireWren 6 = .ok (.if_icmp .lt 13, 3) := by decide +kernel
theorem dX0_requireWren_9 : decode cX0_requireWren 9 = .ok (.new 75, 3) := by decide +kernel
theorem dX0_requireWren_12 : decode cX0_requireWren 12 = .ok (.dup, 1) := by decide +kernel
theorem dX0_requireWren_13 : decode cX0_requireWren 13 = .ok (.ldc 104, 2) := by decide +kernel
theorem dX0_requireWren_15 : decode cX0_requireWren 15 = .ok (.invokespecial 79, 3) := by decide +kernel
theorem dX0_requireWren_18 : decode cX0_requireWren 18 = .ok (.athrow, 1) := by decide +kernel
theorem dX0_requireWren_19 : decode cX0_requireWren 19 = .ok (.return_, 1) := by decide +kernel
set_option maxRecDepth 20000 in
theorem ggX0_requirePitch_X0_requireRange : GoodIn wsX0_requirePitch wsX0_requireRange := goodIn_ca (goodIn_r _ [4, 5, 6] (by decide +kernel) (by decide +kernel)) (goodIn_sub (fun _ h => List.mem_cons_of_mem _ (List.mem_append_right _ h)) (by decide +kernel))
set_option maxRecDepth 20000 in
theorem gX0_requirePitch_X0_requireRange : GoodIn wsX0_requirePitch (va_wsS RX0 47 yX0_requireRange wsX0_requireRange) := goodIn_app (goodIn_of _ (by decide +kernel)) ggX0_requirePitch_X0_requireRange
theorem dX0_requirePitch_0 : decode cX0_requirePitch 0 = .ok (.iload_n 0, 1) := by decide +kernel
theorem dX0_requirePitch_1 : decode cX0_requirePitch 1 = .ok (.iconst 0, 1) := by decide +kernel
theorem dX0_requirePitch_2 : decode cX0_requirePitch 2 = .ok (.sipush 12000, 3) := by decide +kernel
theorem dX0_requirePitch_5 : decode cX0_requirePitch 5 = .ok (.invokestatic 47, 3) := by decide +kernel
theorem dX0_requirePitch_8 : decode cX0_requirePitch 8 = .ok (.return_, 1) := by decide +kernel
theorem dX0_requireRange_0 : decode cX0_requireRange 0 = .ok (.iload_n 0, 1) := by decide +kernel
theorem dX0_requireRange_1 : decode cX0_requireRange 1 = .ok (.iload_n 1, 1) := by decide +kernel
theorem dX0_requireRange_2 : decode cX0_requireRange 2 = .ok (.if_icmp .lt 8, 3) := by decide +kernel
theorem dX0_requireRange_5 : decode cX0_requireRange 5 = .ok (.iload_n 0, 1) := by decide +kernel
theorem dX0_requireRange_6 : decode cX0_requireRange 6 = .ok (.iload_n 2, 1) := by decide +kernel
theorem dX0_requireRange_7 : decode cX0_requireRange 7 = .ok (.if_icmp .le 13, 3) := by decide +kernel
theorem dX0_requireRange_10 : decode cX0_requireRange 10 = .ok (.new 106, 3) := by decide +kernel
theorem dX0_requireRange_13 : decode cX0_requireRange 13 = .ok (.dup, 1) := by decide +kernel
theorem dX0_requireRange_14 : decode cX0_requireRange 14 = .ok (.ldc 108, 2) := by decide +kernel
theorem dX0_requireRange_16 : decode cX0_requireRange 16 = .ok (.invokespecial 110, 3) := by decide +kernel
theorem dX0_requireRange_19 : decode cX0_requireRange 19 = .ok (.athrow, 1) := by decide +kernel
theorem dX0_requireRange_20 : decode cX0_requireRange 20 = .ok (.return_, 1) := by decide +kernel
set_option maxRecDepth 20000 in
theorem ggX0_singFrame_X0_nextRung : GoodIn wsX0_singFrame wsX0_nextRung := goodIn_r _ [12, 13, 14, 15, 16, 17, 18, 19, 20, 11, 21, 22, 23, 24, 25, 26, 27, 28, 29, 30, 31, 32, 33, 34, 35, 36, 37, 38, 39, 40, 41, 42, 43, 74, 75, 76, 77, 78, 79, 80, 81, 82, 83, 84, 85] (by decide +kernel) (by decide +kernel)
set_option maxRecDepth 20000 in
theorem gX0_singFrame_X0_nextRung : GoodIn wsX0_singFrame (wsV RX0 85 RX0 yX0_nextRung wsX0_nextRung) := goodIn_app (goodIn_of _ (by decide +kernel)) ggX0_singFrame_X0_nextRung
set_option maxRecDepth 20000 in
theorem ggX0_singFrame_X0_nextNudge : GoodIn wsX0_singFrame wsX0_nextNudge := goodIn_r _ [47, 1, 2, 48, 49, 50, 11, 51, 13, 14, 15, 16, 52, 53, 54, 55, 56, 57, 58, 59, 60, 61, 62, 63, 64, 65, 66, 74, 75, 76, 77, 78, 79, 80, 81, 82, 83, 84, 85] (by decide +kernel) (by decide +kernel)
set_option maxRecDepth 20000 in
theorem gX0_singFrame_X0_nextNudge : GoodIn wsX0_singFrame (wsV RX0 88 RX0 yX0_nextNudge wsX0_nextNudge) := goodIn_app (goodIn_of _ (by decide +kernel)) ggX0_singFrame_X0_nextNudge
set_option maxRecDepth 20000 in
theorem ggX0_singFrame_X0_isChange : GoodIn wsX0_singFrame wsX0_isChange := goodIn_r _ [55] (by decide +kernel) (by decide +kernel)
set_option maxRecDepth 20000 in
theorem gX0_singFrame_X0_isChange : GoodIn wsX0_singFrame (va_wsS RX0 111 yX0_isChange wsX0_isChange) := goodIn_app (goodIn_of _ (by decide +kernel)) ggX0_singFrame_X0_isChange
set_option maxRecDepth 20000 in
theorem ggX0_singFrame_X0_isLeap : GoodIn wsX0_singFrame wsX0_isLeap := goodIn_r _ [51, 13, 14, 15, 16, 52, 53, 54, 11, 55, 74, 75, 76, 77, 78, 79, 80, 81, 82, 83, 84, 85] (by decide +kernel) (by decide +kernel)
set_option maxRecDepth 20000 in
theorem gX0_singFrame_X0_isLeap : GoodIn wsX0_singFrame (wsV RX0 114 RX0 yX0_isLeap wsX0_isLeap) := goodIn_app (goodIn_of _ (by decide +kernel)) ggX0_singFrame_X0_isLeap
set_option maxRecDepth 20000 in
theorem ggX0_singFrame_X0_isRung : GoodIn wsX0_singFrame wsX0_isRung := goodIn_r _ [70, 26, 27, 28, 11, 29, 30, 31, 32, 33, 34, 35, 36, 37, 38, 39, 74, 75, 76, 77, 78, 79, 80, 81, 82, 83, 84, 85] (by decide +kernel) (by decide +kernel)
set_option maxRecDepth 20000 in
theorem gX0_singFrame_X0_isRung : GoodIn wsX0_singFrame (wsV RX0 51 RX0 yX0_isRung wsX0_isRung) := goodIn_app (goodIn_of _ (by decide +kernel)) ggX0_singFrame_X0_isRung
set_option maxRecDepth 20000 in
theorem ggX0_singFrame_X0_nearestSemitone : GoodIn wsX0_singFrame wsX0_nearestSemitone := goodIn_r _ [73, 36, 37, 38, 39] (by decide +kernel) (by decide +kernel)
set_option maxRecDepth 20000 in
theorem gX0_singFrame_X0_nearestSemitone : GoodIn wsX0_singFrame (va_wsS RX0 117 yX0_nearestSemitone wsX0_nearestSemitone) := goodIn_app (goodIn_of _ (by decide +kernel)) ggX0_singFrame_X0_nearestSemitone
theorem dX0_singFrame_0 : decode cX0_singFrame 0 = .ok (.aload_n 0, 1) := by decide +kernel
theorem dX0_singFrame_1 : decode cX0_singFrame 1 = .ok (.getfield 9, 3) := by decide +kernel
theorem dX0_singFrame_4 : decode cX0_singFrame 4 = .ok (.iload_n 1, 1) := by decide +kernel
theorem dX0_singFrame_5 : decode cX0_singFrame 5 = .ok (.iaload, 1) := by decide +kernel
theorem dX0_singFrame_6 : decode cX0_singFrame 6 = .ok (.istore_n 3, 1) := by decide +kernel
theorem dX0_singFrame_7 : decode cX0_singFrame 7 = .ok (.aload_n 0, 1) := by decide +kernel
theorem dX0_singFrame_8 : decode cX0_singFrame 8 = .ok (.iload_n 3, 1) := by decide +kernel
theorem dX0_singFrame_9 : decode cX0_singFrame 9 = .ok (.iload_n 2, 1) := by decide +kernel
theorem dX0_singFrame_10 : decode cX0_singFrame 10 = .ok (.invokevirtual 85, 3) := by decide +kernel
theorem dX0_singFrame_13 : decode cX0_singFrame 13 = .ok (.istore 4, 2) := by decide +kernel
theorem dX0_singFrame_15 : decode cX0_singFrame 15 = .ok (.aload_n 0, 1) := by decide +kernel
theorem dX0_singFrame_16 : decode cX0_singFrame 16 = .ok (.iload_n 1, 1) := by decide +kernel
theorem dX0_singFrame_17 : decode cX0_singFrame 17 = .ok (.iload 4, 2) := by decide +kernel
theorem dX0_singFrame_19 : decode cX0_singFrame 19 = .ok (.iload_n 2, 1) := by decide +kernel
theorem dX0_singFrame_20 : decode cX0_singFrame 20 = .ok (.invokevirtual 88, 3) := by decide +kernel
theorem dX0_singFrame_23 : decode cX0_singFrame 23 = .ok (.istore 5, 2) := by decide +kernel
theorem dX0_singFrame_25 : decode cX0_singFrame 25 = .ok (.iload_n 2, 1) := by decide +kernel
theorem dX0_singFrame_26 : decode cX0_singFrame 26 = .ok (.iload 5, 2) := by decide +kernel
theorem dX0_singFrame_28 : decode cX0_singFrame 28 = .ok (.iadd, 1) := by decide +kernel
theorem dX0_singFrame_29 : decode cX0_singFrame 29 = .ok (.istore 6, 2) := by decide +kernel
theorem dX0_singFrame_31 : decode cX0_singFrame 31 = .ok (.aload_n 0, 1) := by decide +kernel
theorem dX0_singFrame_32 : decode cX0_singFrame 32 = .ok (.getfield 9, 3) := by decide +kernel
theorem dX0_singFrame_35 : decode cX0_singFrame 35 = .ok (.iload_n 1, 1) := by decide +kernel
theorem dX0_singFrame_36 : decode cX0_singFrame 36 = .ok (.iload 4, 2) := by decide +kernel
theorem dX0_singFrame_38 : decode cX0_singFrame 38 = .ok (.iastore, 1) := by decide +kernel
theorem dX0_singFrame_39 : decode cX0_singFrame 39 = .ok (.aload_n 0, 1) := by decide +kernel
theorem dX0_singFrame_40 : decode cX0_singFrame 40 = .ok (.getfield 13, 3) := by decide +kernel
theorem dX0_singFrame_43 : decode cX0_singFrame 43 = .ok (.iload_n 1, 1) := by decide +kernel
theorem dX0_singFrame_44 : decode cX0_singFrame 44 = .ok (.iload 5, 2) := by decide +kernel
theorem dX0_singFrame_46 : decode cX0_singFrame 46 = .ok (.iastore, 1) := by decide +kernel
theorem dX0_singFrame_47 : decode cX0_singFrame 47 = .ok (.aload_n 0, 1) := by decide +kernel
theorem dX0_singFrame_48 : decode cX0_singFrame 48 = .ok (.getfield 16, 3) := by decide +kernel
theorem dX0_singFrame_51 : decode cX0_singFrame 51 = .ok (.iload_n 1, 1) := by decide +kernel
theorem dX0_singFrame_52 : decode cX0_singFrame 52 = .ok (.dup2, 1) := by decide +kernel
theorem dX0_singFrame_53 : decode cX0_singFrame 53 = .ok (.iaload, 1) := by decide +kernel
theorem dX0_singFrame_54 : decode cX0_singFrame 54 = .ok (.iconst 1, 1) := by decide +kernel
theorem dX0_singFrame_55 : decode cX0_singFrame 55 = .ok (.iadd, 1) := by decide +kernel
theorem dX0_singFrame_56 : decode cX0_singFrame 56 = .ok (.iastore, 1) := by decide +kernel
theorem dX0_singFrame_57 : decode cX0_singFrame 57 = .ok (.iload_n 3, 1) := by decide +kernel
theorem dX0_singFrame_58 : decode cX0_singFrame 58 = .ok (.iload 4, 2) := by decide +kernel
theorem dX0_singFrame_60 : decode cX0_singFrame 60 = .ok (.invokestatic 111, 3) := by decide +kernel
theorem dX0_singFrame_63 : decode cX0_singFrame 63 = .ok (.ifCond .eq 13, 3) := by decide +kernel
theorem dX0_singFrame_66 : decode cX0_singFrame 66 = .ok (.aload_n 0, 1) := by decide +kernel
theorem dX0_singFrame_67 : decode cX0_singFrame 67 = .ok (.getfield 19, 3) := by decide +kernel
theorem dX0_singFrame_70 : decode cX0_singFrame 70 = .ok (.iload_n 1, 1) := by decide +kernel
theorem dX0_singFrame_71 : decode cX0_singFrame 71 = .ok (.dup2, 1) := by decide +kernel
theorem dX0_singFrame_72 : decode cX0_singFrame 72 = .ok (.iaload, 1) := by decide +kernel
theorem dX0_singFrame_73 : decode cX0_singFrame 73 = .ok (.iconst 1, 1) := by decide +kernel
theorem dX0_singFrame_74 : decode cX0_singFrame 74 = .ok (.iadd, 1) := by decide +kernel
theorem dX0_singFrame_75 : decode cX0_singFrame 75 = .ok (.iastore, 1) := by decide +kernel
theorem dX0_singFrame_76 : decode cX0_singFrame 76 = .ok (.aload_n 0, 1) := by decide +kernel
theorem dX0_singFrame_77 : decode cX0_singFrame 77 = .ok (.iload_n 3, 1) := by decide +kernel
theorem dX0_singFrame_78 : decode cX0_singFrame 78 = .ok (.iload 4, 2) := by decide +kernel
theorem dX0_singFrame_80 : decode cX0_singFrame 80 = .ok (.invokevirtual 114, 3) := by decide +kernel
theorem dX0_singFrame_83 : decode cX0_singFrame 83 = .ok (.ifCond .eq 13, 3) := by decide +kernel
theorem dX0_singFrame_86 : decode cX0_singFrame 86 = .ok (.aload_n 0, 1) := by decide +kernel
theorem dX0_singFrame_87 : decode cX0_singFrame 87 = .ok (.getfield 22, 3) := by decide +kernel
theorem dX0_singFrame_90 : decode cX0_singFrame 90 = .ok (.iload_n 1, 1) := by decide +kernel
theorem dX0_singFrame_91 : decode cX0_singFrame 91 = .ok (.dup2, 1) := by decide +kernel
theorem dX0_singFrame_92 : decode cX0_singFrame 92 = .ok (.iaload, 1) := by decide +kernel
theorem dX0_singFrame_93 : decode cX0_singFrame 93 = .ok (.iconst 1, 1) := by decide +kernel
theorem dX0_singFrame_94 : decode cX0_singFrame 94 = .ok (.iadd, 1) := by decide +kernel
theorem dX0_singFrame_95 : decode cX0_singFrame 95 = .ok (.iastore, 1) := by decide +kernel
theorem dX0_singFrame_96 : decode cX0_singFrame 96 = .ok (.aload_n 0, 1) := by decide +kernel
theorem dX0_singFrame_97 : decode cX0_singFrame 97 = .ok (.iload 6, 2) := by decide +kernel
theorem dX0_singFrame_99 : decode cX0_singFrame 99 = .ok (.invokevirtual 51, 3) := by decide +kernel
theorem dX0_singFrame_102 : decode cX0_singFrame 102 = .ok (.ifCond .eq 13, 3) := by decide +kernel
theorem dX0_singFrame_105 : decode cX0_singFrame 105 = .ok (.aload_n 0, 1) := by decide +kernel
theorem dX0_singFrame_106 : decode cX0_singFrame 106 = .ok (.getfield 25, 3) := by decide +kernel
theorem dX0_singFrame_109 : decode cX0_singFrame 109 = .ok (.iload_n 1, 1) := by decide +kernel
theorem dX0_singFrame_110 : decode cX0_singFrame 110 = .ok (.dup2, 1) := by decide +kernel
theorem dX0_singFrame_111 : decode cX0_singFrame 111 = .ok (.iaload, 1) := by decide +kernel
theorem dX0_singFrame_112 : decode cX0_singFrame 112 = .ok (.iconst 1, 1) := by decide +kernel
theorem dX0_singFrame_113 : decode cX0_singFrame 113 = .ok (.iadd, 1) := by decide +kernel
theorem dX0_singFrame_114 : decode cX0_singFrame 114 = .ok (.iastore, 1) := by decide +kernel
theorem dX0_singFrame_115 : decode cX0_singFrame 115 = .ok (.aload_n 0, 1) := by decide +kernel
theorem dX0_singFrame_116 : decode cX0_singFrame 116 = .ok (.getfield 28, 3) := by decide +kernel
theorem dX0_singFrame_119 : decode cX0_singFrame 119 = .ok (.iload_n 2, 1) := by decide +kernel
theorem dX0_singFrame_120 : decode cX0_singFrame 120 = .ok (.invokestatic 117, 3) := by decide +kernel
theorem dX0_singFrame_123 : decode cX0_singFrame 123 = .ok (.dup2, 1) := by decide +kernel
theorem dX0_singFrame_124 : decode cX0_singFrame 124 = .ok (.iaload, 1) := by decide +kernel
theorem dX0_singFrame_125 : decode cX0_singFrame 125 = .ok (.iconst 1, 1) := by decide +kernel
theorem dX0_singFrame_126 : decode cX0_singFrame 126 = .ok (.iadd, 1) := by decide +kernel
theorem dX0_singFrame_127 : decode cX0_singFrame 127 = .ok (.iastore, 1) := by decide +kernel
theorem dX0_singFrame_128 : decode cX0_singFrame 128 = .ok (.iload 6, 2) := by decide +kernel
theorem dX0_singFrame_130 : decode cX0_singFrame 130 = .ok (.ireturn, 1) := by decide +kernel
set_option maxRecDepth 20000 in
theorem ggX0_nextRung_X0_nearestRung : GoodIn wsX0_nextRung wsX0_nearestRung := goodIn_r _ [10, 11, 12, 13, 9, 14, 15, 16, 17, 18, 19, 20, 21, 22, 23, 24, 25, 26, 27, 28, 29, 30, 31, 32, 33, 34, 35, 36, 37, 38, 39, 40, 41, 42, 43, 44] (by decide +kernel) (by decide +kernel)
set_option maxRecDepth 20000 in
theorem gX0_nextRung_X0_nearestRung : GoodIn wsX0_nextRung (wsV RX0 71 RX0 yX0_nearestRung wsX0_nearestRung) := goodIn_app (goodIn_of _ (by decide +kernel)) ggX0_nextRung_X0_nearestRung
theorem dX0_nextRung_0 : decode cX0_nextRung 0 = .ok (.iload_n 1, 1) := by decide +kernel
theorem dX0_nextRung_1 : decode cX0_nextRung 1 = .ok (.iconst (-1), 1) := by decide +kernel
theorem dX0_nextRung_2 : decode cX0_nextRung 2 = .ok (.if_icmp .eq 18, 3) := by decide +kernel
theorem dX0_nextRung_5 : decode cX0_nextRung 5 = .ok (.iload_n 2, 1) := by decide +kernel
theorem dX0_nextRung_6 : decode cX0_nextRung 6 = .ok (.iload_n 1, 1) := by decide +kernel
theorem dX0_nextRung_7 : decode cX0_nextRung 7 = .ok (.isub, 1) := by decide +kernel
theorem dX0_nextRung_8 : decode cX0_nextRung 8 = .ok (.invokestatic 120, 3) := by decide +kernel
theorem dX0_nextRung_11 : decode cX0_nextRung 11 = .ok (.aload_n 0, 1) := by decide +kernel
theorem dX0_nextRung_12 : decode cX0_nextRung 12 = .ok (.getfield 41, 3) := by decide +kernel
theorem dX0_nextRung_15 : decode cX0_nextRung 15 = .ok (.if_icmp .gt 5, 3) := by decide +kernel
theorem dX0_nextRung_18 : decode cX0_nextRung 18 = .ok (.iload_n 1, 1) := by decide +kernel
theorem dX0_nextRung_19 : decode cX0_nextRung 19 = .ok (.ireturn, 1) := by decide +kernel
theorem dX0_nextRung_20 : decode cX0_nextRung 20 = .ok (.aload_n 0, 1) := by decide +kernel
theorem dX0_nextRung_21 : decode cX0_nextRung 21 = .ok (.iload_n 2, 1) := by decide +kernel
theorem dX0_nextRung_22 : decode cX0_nextRung 22 = .ok (.invokevirtual 71, 3) := by decide +kernel
theorem dX0_nextRung_25 : decode cX0_nextRung 25 = .ok (.ireturn, 1) := by decide +kernel
set_option maxRecDepth 20000 in
theorem ggX0_nextNudge_X0_isLeap : GoodIn wsX0_nextNudge wsX0_isLeap := goodIn_r _ [7, 8, 9, 10, 11, 12, 13, 14, 6, 15, 27, 28, 29, 30, 31, 32, 33, 34, 35, 36, 37, 38] (by decide +kernel) (by decide +kernel)
set_option maxRecDepth 20000 in
theorem gX0_nextNudge_X0_isLeap : GoodIn wsX0_nextNudge (wsV RX0 114 RX0 yX0_isLeap wsX0_isLeap) := goodIn_app (goodIn_of _ (by decide +kernel)) ggX0_nextNudge_X0_isLeap
set_option maxRecDepth 20000 in
theorem ggX0_nextNudge_X0_nudgeTowards : GoodIn wsX0_nextNudge wsX0_nudgeTowards := goodIn_r _ [19, 20, 21, 22, 10, 23, 24, 25, 26, 27, 28, 29, 30, 31, 32, 33, 34, 35, 36, 37, 38] (by decide +kernel) (by decide +kernel)
set_option maxRecDepth 20000 in
theorem gX0_nextNudge_X0_nudgeTowards : GoodIn wsX0_nextNudge (wsV RX0 92 RX0 yX0_nudgeTowards wsX0_nudgeTowards) := goodIn_app (goodIn_of _ (by decide +kernel)) ggX0_nextNudge_X0_nudgeTowards
theorem dX0_nextNudge_0 : decode cX0_nextNudge 0 = .ok (.aload_n 0, 1) := by decide +kernel
theorem dX0_nextNudge_1 : decode cX0_nextNudge 1 = .ok (.aload_n 0, 1) := by decide +kernel
theorem dX0_nextNudge_2 : decode cX0_nextNudge 2 = .ok (.getfield 9, 3) := by decide +kernel
theorem dX0_nextNudge_5 : decode cX0_nextNudge 5 = .ok (.iload_n 1, 1) := by decide +kernel
theorem dX0_nextNudge_6 : decode cX0_nextNudge 6 = .ok (.iaload, 1) := by decide +kernel
theorem dX0_nextNudge_7 : decode cX0_nextNudge 7 = .ok (.iload_n 2, 1) := by decide +kernel
theorem dX0_nextNudge_8 : decode cX0_nextNudge 8 = .ok (.invokevirtual 114, 3) := by decide +kernel
theorem dX0_nextNudge_11 : decode cX0_nextNudge 11 = .ok (.ifCond .eq 5, 3) := by decide +kernel
theorem dX0_nextNudge_14 : decode cX0_nextNudge 14 = .ok (.iconst 0, 1) := by decide +kernel
theorem dX0_nextNudge_15 : decode cX0_nextNudge 15 = .ok (.ireturn, 1) := by decide +kernel
theorem dX0_nextNudge_16 : decode cX0_nextNudge 16 = .ok (.aload_n 0, 1) := by decide +kernel
theorem dX0_nextNudge_17 : decode cX0_nextNudge 17 = .ok (.aload_n 0, 1) := by decide +kernel
theorem dX0_nextNudge_18 : decode cX0_nextNudge 18 = .ok (.getfield 13, 3) := by decide +kernel
theorem dX0_nextNudge_21 : decode cX0_nextNudge 21 = .ok (.iload_n 1, 1) := by decide +kernel
theorem dX0_nextNudge_22 : decode cX0_nextNudge 22 = .ok (.iaload, 1) := by decide +kernel
theorem dX0_nextNudge_23 : decode cX0_nextNudge 23 = .ok (.iload_n 2, 1) := by decide +kernel
theorem dX0_nextNudge_24 : decode cX0_nextNudge 24 = .ok (.iload_n 3, 1) := by decide +kernel
theorem dX0_nextNudge_25 : decode cX0_nextNudge 25 = .ok (.isub, 1) := by decide +kernel
theorem dX0_nextNudge_26 : decode cX0_nextNudge 26 = .ok (.invokevirtual 92, 3) := by decide +kernel
theorem dX0_nextNudge_29 : decode cX0_nextNudge 29 = .ok (.ireturn, 1) := by decide +kernel
theorem dX0_nudgeTowards_0 : decode cX0_nudgeTowards 0 = .ok (.iload_n 2, 1) := by decide +kernel
theorem dX0_nudgeTowards_1 : decode cX0_nudgeTowards 1 = .ok (.iload_n 1, 1) := by decide +kernel
theorem dX0_nudgeTowards_2 : decode cX0_nudgeTowards 2 = .ok (.isub, 1) := by decide +kernel
theorem dX0_nudgeTowards_3 : decode cX0_nudgeTowards 3 = .ok (.istore_n 3, 1) := by decide +kernel
theorem dX0_nudgeTowards_4 : decode cX0_nudgeTowards 4 = .ok (.iload_n 3, 1) := by decide +kernel
theorem dX0_nudgeTowards_5 : decode cX0_nudgeTowards 5 = .ok (.aload_n 0, 1) := by decide +kernel
theorem dX0_nudgeTowards_6 : decode cX0_nudgeTowards 6 = .ok (.getfield 38, 3) := by decide +kernel
theorem dX0_nudgeTowards_9 : decode cX0_nudgeTowards 9 = .ok (.imul, 1) := by decide +kernel
theorem dX0_nudgeTowards_10 : decode cX0_nudgeTowards 10 = .ok (.bipush 100, 2) := by decide +kernel
theorem dX0_nudgeTowards_12 : decode cX0_nudgeTowards 12 = .ok (.idiv, 1) := by decide +kernel
theorem dX0_nudgeTowards_13 : decode cX0_nudgeTowards 13 = .ok (.istore 4, 2) := by decide +kernel
theorem dX0_nudgeTowards_15 : decode cX0_nudgeTowards 15 = .ok (.iload 4, 2) := by decide +kernel
theorem dX0_nudgeTowards_17 : decode cX0_nudgeTowards 17 = .ok (.ifCond .ne 21, 3) := by decide +kernel
theorem dX0_nudgeTowards_20 : decode cX0_nudgeTowards 20 = .ok (.aload_n 0, 1) := by decide +kernel
theorem dX0_nudgeTowards_21 : decode cX0_nudgeTowards 21 = .ok (.getfield 38, 3) := by decide +kernel
theorem dX0_nudgeTowards_24 : decode cX0_nudgeTowards 24 = .ok (.ifCond .eq 14, 3) := by decide +kernel
theorem dX0_nudgeTowards_27 : decode cX0_nudgeTowards 27 = .ok (.iconst (-1), 1) := by decide +kernel
theorem dX0_nudgeTowards_28 : decode cX0_nudgeTowards 28 = .ok (.iload_n 3, 1) := by decide +kernel
theorem dX0_nudgeTowards_29 : decode cX0_nudgeTowards 29 = .ok (.iconst 1, 1) := by decide +kernel
theorem dX0_nudgeTowards_30 : decode cX0_nudgeTowards 30 = .ok (.invokestatic 123, 3) := by decide +kernel
theorem dX0_nudgeTowards_33 : decode cX0_nudgeTowards 33 = .ok (.invokestatic 126, 3) := by decide +kernel
theorem dX0_nudgeTowards_36 : decode cX0_nudgeTowards 36 = .ok (.istore 4, 2) := by decide +kernel
theorem dX0_nudgeTowards_38 : decode cX0_nudgeTowards 38 = .ok (.iload_n 1, 1) := by decide +kernel
theorem dX0_nudgeTowards_39 : decode cX0_nudgeTowards 39 = .ok (.iload 4, 2) := by decide +kernel
theorem dX0_nudgeTowards_41 : decode cX0_nudgeTowards 41 = .ok (.iadd, 1) := by decide +kernel
theorem dX0_nudgeTowards_42 : decode cX0_nudgeTowards 42 = .ok (.ireturn, 1) := by decide +kernel
theorem dX0_isChange_0 : decode cX0_isChange 0 = .ok (.iload_n 0, 1) := by decide +kernel
theorem dX0_isChange_1 : decode cX0_isChange 1 = .ok (.iconst (-1), 1) := by decide +kernel
theorem dX0_isChange_2 : decode cX0_isChange 2 = .ok (.if_icmp .eq 12, 3) := by decide +kernel
theorem dX0_isChange_5 : decode cX0_isChange 5 = .ok (.iload_n 0, 1) := by decide +kernel
theorem dX0_isChange_6 : decode cX0_isChange 6 = .ok (.iload_n 1, 1) := by decide +kernel
theorem dX0_isChange_7 : decode cX0_isChange 7 = .ok (.if_icmp .eq 7, 3) := by decide +kernel
theorem dX0_isChange_10 : decode cX0_isChange 10 = .ok (.iconst 1, 1) := by decide +kernel
theorem dX0_isChange_11 : decode cX0_isChange 11 = .ok (.goto 4, 3) := by decide +kernel
theorem dX0_isChange_14 : decode cX0_isChange 14 = .ok (.iconst 0, 1) := by decide +kernel
theorem dX0_isChange_15 : decode cX0_isChange 15 = .ok (.ireturn, 1) := by decide +kernel
set_option maxRecDepth 20000 in
theorem ggX0_isLeap_X0_isChange : GoodIn wsX0_isLeap wsX0_isChange := goodIn_r _ [9] (by decide +kernel) (by decide +kernel)
set_option maxRecDepth 20000 in
theorem gX0_isLeap_X0_isChange : GoodIn wsX0_isLeap (va_wsS RX0 111 yX0_isChange wsX0_isChange) := goodIn_app (goodIn_of _ (by decide +kernel)) ggX0_isLeap_X0_isChange
theorem dX0_isLeap_0 : decode cX0_isLeap 0 = .ok (.iload_n 1, 1) := by decide +kernel
theorem dX0_isLeap_1 : decode cX0_isLeap 1 = .ok (.iload_n 2, 1) := by decide +kernel
theorem dX0_isLeap_2 : decode cX0_isLeap 2 = .ok (.invokestatic 111, 3) := by decide +kernel
theorem dX0_isLeap_5 : decode cX0_isLeap 5 = .ok (.ifCond .eq 20, 3) := by decide +kernel
theorem dX0_isLeap_8 : decode cX0_isLeap 8 = .ok (.iload_n 2, 1) := by decide +kernel
theorem dX0_isLeap_9 : decode cX0_isLeap 9 = .ok (.iload_n 1, 1) := by decide +kernel
theorem dX0_isLeap_10 : decode cX0_isLeap 10 = .ok (.isub, 1) := by decide +kernel
theorem dX0_isLeap_11 : decode cX0_isLeap 11 = .ok (.invokestatic 120, 3) := by decide +kernel
theorem dX0_isLeap_14 : decode cX0_isLeap 14 = .ok (.aload_n 0, 1) := by decide +kernel
theorem dX0_isLeap_15 : decode cX0_isLeap 15 = .ok (.getfield 44, 3) := by decide +kernel
theorem dX0_isLeap_18 : decode cX0_isLeap 18 = .ok (.if_icmp .le 7, 3) := by decide +kernel
theorem dX0_isLeap_21 : decode cX0_isLeap 21 = .ok (.iconst 1, 1) := by decide +kernel
theorem dX0_isLeap_22 : decode cX0_isLeap 22 = .ok (.goto 4, 3) := by decide +kernel
theorem dX0_isLeap_25 : decode cX0_isLeap 25 = .ok (.iconst 0, 1) := by decide +kernel
theorem dX0_isLeap_26 : decode cX0_isLeap 26 = .ok (.ireturn, 1) := by decide +kernel
set_option maxRecDepth 20000 in
theorem ggX0_isRung_X0_stepAt : GoodIn wsX0_isRung wsX0_stepAt := goodIn_r _ [5, 6, 7, 8, 9, 4, 10, 11, 12, 13, 14, 15, 16, 17, 18, 19, 20, 21, 22, 23, 24, 25, 26, 27] (by decide +kernel) (by decide +kernel)
set_option maxRecDepth 20000 in
theorem gX0_isRung_X0_stepAt : GoodIn wsX0_isRung (wsV RX0 82 RX0 yX0_stepAt wsX0_stepAt) := goodIn_app (goodIn_of _ (by decide +kernel)) ggX0_isRung_X0_stepAt
theorem dX0_isRung_0 : decode cX0_isRung 0 = .ok (.aload_n 0, 1) := by decide +kernel
theorem dX0_isRung_1 : decode cX0_isRung 1 = .ok (.iload_n 1, 1) := by decide +kernel
theorem dX0_isRung_2 : decode cX0_isRung 2 = .ok (.invokevirtual 82, 3) := by decide +kernel
theorem dX0_isRung_5 : decode cX0_isRung 5 = .ok (.iconst (-1), 1) := by decide +kernel
theorem dX0_isRung_6 : decode cX0_isRung 6 = .ok (.if_icmp .eq 7, 3) := by decide +kernel
theorem dX0_isRung_9 : decode cX0_isRung 9 = .ok (.iconst 1, 1) := by decide +kernel
theorem dX0_isRung_10 : decode cX0_isRung 10 = .ok (.goto 4, 3) := by decide +kernel
theorem dX0_isRung_13 : decode cX0_isRung 13 = .ok (.iconst 0, 1) := by decide +kernel
theorem dX0_isRung_14 : decode cX0_isRung 14 = .ok (.ireturn, 1) := by decide +kernel
set_option maxRecDepth 20000 in
theorem ggX0_stepAt_X0_stepAbove : GoodIn wsX0_stepAt wsX0_stepAbove := goodIn_r _ [6, 7, 8, 9, 10, 11] (by decide +kernel) (by decide +kernel)
set_option maxRecDepth 20000 in
theorem gX0_stepAt_X0_stepAbove : GoodIn wsX0_stepAt (va_wsS RX0 129 yX0_stepAbove wsX0_stepAbove) := goodIn_app (goodIn_of _ (by decide +kernel)) ggX0_stepAt_X0_stepAbove
theorem dX0_stepAt_0 : decode cX0_stepAt 0 = .ok (.iload_n 1, 1) := by decide +kernel
theorem dX0_stepAt_1 : decode cX0_stepAt 1 = .ok (.ifCond .lt 17, 3) := by decide +kernel
theorem dX0_stepAt_4 : decode cX0_stepAt 4 = .ok (.iload_n 1, 1) := by decide +kernel
theorem dX0_stepAt_5 : decode cX0_stepAt 5 = .ok (.sipush 12000, 3) := by decide +kernel
theorem dX0_stepAt_8 : decode cX0_stepAt 8 = .ok (.if_icmp .gt 10, 3) := by decide +kernel
theorem dX0_stepAt_11 : decode cX0_stepAt 11 = .ok (.iload_n 1, 1) := by decide +kernel
theorem dX0_stepAt_12 : decode cX0_stepAt 12 = .ok (.bipush 100, 2) := by decide +kernel
theorem dX0_stepAt_14 : decode cX0_stepAt 14 = .ok (.irem, 1) := by decide +kernel
theorem dX0_stepAt_15 : decode cX0_stepAt 15 = .ok (.ifCond .eq 5, 3) := by decide +kernel
theorem dX0_stepAt_18 : decode cX0_stepAt 18 = .ok (.iconst (-1), 1) := by decide +kernel
theorem dX0_stepAt_19 : decode cX0_stepAt 19 = .ok (.ireturn, 1) := by decide +kernel
theorem dX0_stepAt_20 : decode cX0_stepAt 20 = .ok (.iload_n 1, 1) := by decide +kernel
theorem dX0_stepAt_21 : decode cX0_stepAt 21 = .ok (.bipush 100, 2) := by decide +kernel
theorem dX0_stepAt_23 : decode cX0_stepAt 23 = .ok (.idiv, 1) := by decide +kernel
theorem dX0_stepAt_24 : decode cX0_stepAt 24 = .ok (.aload_n 0, 1) := by decide +kernel
theorem dX0_stepAt_25 : decode cX0_stepAt 25 = .ok (.getfield 31, 3) := by decide +kernel
theorem dX0_stepAt_28 : decode cX0_stepAt 28 = .ok (.isub, 1) := by decide +kernel
theorem dX0_stepAt_29 : decode cX0_stepAt 29 = .ok (.aload_n 0, 1) := by decide +kernel
theorem dX0_stepAt_30 : decode cX0_stepAt 30 = .ok (.getfield 35, 3) := by decide +kernel
theorem dX0_stepAt_33 : decode cX0_stepAt 33 = .ok (.invokestatic 129, 3) := by decide +kernel
theorem dX0_stepAt_36 : decode cX0_stepAt 36 = .ok (.ireturn, 1) := by decide +kernel
set_option maxRecDepth 20000 in
theorem ggX0_stepAbove_J9_floorMod_7cf53 : GoodIn wsX0_stepAbove wsJ9_floorMod_7cf53 := goodIn_r _ [5] (by decide +kernel) (by decide +kernel)
set_option maxRecDepth 20000 in
theorem gX0_stepAbove_J9_floorMod_7cf53 : GoodIn wsX0_stepAbove (va_wsS RX0 132 yJ9_floorMod_7cf53 wsJ9_floorMod_7cf53) := goodIn_app (goodIn_of _ (by decide +kernel)) ggX0_stepAbove_J9_floorMod_7cf53
theorem dX0_stepAbove_0 : decode cX0_stepAbove 0 = .ok (.iload_n 0, 1) := by decide +kernel
theorem dX0_stepAbove_1 : decode cX0_stepAbove 1 = .ok (.bipush 12, 2) := by decide +kernel
theorem dX0_stepAbove_3 : decode cX0_stepAbove 3 = .ok (.invokestatic 132, 3) := by decide +kernel
theorem dX0_stepAbove_6 : decode cX0_stepAbove 6 = .ok (.istore_n 2, 1) := by decide +kernel
theorem dX0_stepAbove_7 : decode cX0_stepAbove 7 = .ok (.iload_n 1, 1) := by decide +kernel
theorem dX0_stepAbove_8 : decode cX0_stepAbove 8 = .ok (.bipush 7, 2) := by decide +kernel
theorem dX0_stepAbove_10 : decode cX0_stepAbove 10 = .ok (.if_icmp .ne 5, 3) := by decide +kernel
theorem dX0_stepAbove_13 : decode cX0_stepAbove 13 = .ok (.iload_n 2, 1) := by decide +kernel
theorem dX0_stepAbove_14 : decode cX0_stepAbove 14 = .ok (.ireturn, 1) := by decide +kernel
theorem dX0_stepAbove_15 : decode cX0_stepAbove 15 = .ok (.getstatic 135, 3) := by decide +kernel
theorem dX0_stepAbove_18 : decode cX0_stepAbove 18 = .ok (.iload_n 1, 1) := by decide +kernel
theorem dX0_stepAbove_19 : decode cX0_stepAbove 19 = .ok (.getstatic 135, 3) := by decide +kernel
theorem dX0_stepAbove_22 : decode cX0_stepAbove 22 = .ok (.arraylength, 1) := by decide +kernel
theorem dX0_stepAbove_23 : decode cX0_stepAbove 23 = .ok (.invokestatic 132, 3) := by decide +kernel
theorem dX0_stepAbove_26 : decode cX0_stepAbove 26 = .ok (.iaload, 1) := by decide +kernel
theorem dX0_stepAbove_27 : decode cX0_stepAbove 27 = .ok (.istore_n 3, 1) := by decide +kernel
theorem dX0_stepAbove_28 : decode cX0_stepAbove 28 = .ok (.iconst 0, 1) := by decide +kernel
theorem dX0_stepAbove_29 : decode cX0_stepAbove 29 = .ok (.istore 4, 2) := by decide +kernel
theorem dX0_stepAbove_31 : decode cX0_stepAbove 31 = .ok (.iload 4, 2) := by decide +kernel
theorem dX0_stepAbove_33 : decode cX0_stepAbove 33 = .ok (.getstatic 135, 3) := by decide +kernel
theorem dX0_stepAbove_36 : decode cX0_stepAbove 36 = .ok (.arraylength, 1) := by decide +kernel
theorem dX0_stepAbove_37 : decode cX0_stepAbove 37 = .ok (.if_icmp .ge 42, 3) := by decide +kernel
theorem dX0_stepAbove_40 : decode cX0_stepAbove 40 = .ok (.getstatic 135, 3) := by decide +kernel
theorem dX0_stepAbove_43 : decode cX0_stepAbove 43 = .ok (.iload_n 1, 1) := by decide +kernel
theorem dX0_stepAbove_44 : decode cX0_stepAbove 44 = .ok (.iload 4, 2) := by decide +kernel
theorem dX0_stepAbove_46 : decode cX0_stepAbove 46 = .ok (.iadd, 1) := by decide +kernel
theorem dX0_stepAbove_47 : decode cX0_stepAbove 47 = .ok (.getstatic 135, 3) := by decide +kernel
theorem dX0_stepAbove_50 : decode cX0_stepAbove 50 = .ok (.arraylength, 1) := by decide +kernel
theorem dX0_stepAbove_51 : decode cX0_stepAbove 51 = .ok (.invokestatic 132, 3) := by decide +kernel
theorem dX0_stepAbove_54 : decode cX0_stepAbove 54 = .ok (.iaload, 1) := by decide +kernel
theorem dX0_stepAbove_55 : decode cX0_stepAbove 55 = .ok (.istore 5, 2) := by decide +kernel
theorem dX0_stepAbove_57 : decode cX0_stepAbove 57 = .ok (.iload 5, 2) := by decide +kernel
theorem dX0_stepAbove_59 : decode cX0_stepAbove 59 = .ok (.iload_n 3, 1) := by decide +kernel
theorem dX0_stepAbove_60 : decode cX0_stepAbove 60 = .ok (.isub, 1) := by decide +kernel
theorem dX0_stepAbove_61 : decode cX0_stepAbove 61 = .ok (.bipush 12, 2) := by decide +kernel
theorem dX0_stepAbove_63 : decode cX0_stepAbove 63 = .ok (.invokestatic 132, 3) := by decide +kernel
theorem dX0_stepAbove_66 : decode cX0_stepAbove 66 = .ok (.iload_n 2, 1) := by decide +kernel
theorem dX0_stepAbove_67 : decode cX0_stepAbove 67 = .ok (.if_icmp .ne 6, 3) := by decide +kernel
theorem dX0_stepAbove_70 : decode cX0_stepAbove 70 = .ok (.iload 4, 2) := by decide +kernel
theorem dX0_stepAbove_72 : decode cX0_stepAbove 72 = .ok (.ireturn, 1) := by decide +kernel
theorem dX0_stepAbove_73 : decode cX0_stepAbove 73 = .ok (.iinc 4 1, 3) := by decide +kernel
theorem dX0_stepAbove_76 : decode cX0_stepAbove 76 = .ok (.goto (-45), 3) := by decide +kernel
theorem dX0_stepAbove_79 : decode cX0_stepAbove 79 = .ok (.iconst (-1), 1) := by decide +kernel
theorem dX0_stepAbove_80 : decode cX0_stepAbove 80 = .ok (.ireturn, 1) := by decide +kernel
set_option maxRecDepth 20000 in
theorem ggX0_nearestRung_X0_rungNotAbove : GoodIn wsX0_nearestRung wsX0_rungNotAbove := goodIn_r _ [5, 6, 7, 8, 4, 9, 10, 11, 12, 13, 14, 15, 16, 17, 18, 19, 24, 25, 26, 27, 28, 29, 30, 31, 32, 33, 34, 35] (by decide +kernel) (by decide +kernel)
set_option maxRecDepth 20000 in
theorem gX0_nearestRung_X0_rungNotAbove : GoodIn wsX0_nearestRung (wsV RX0 138 RX0 yX0_rungNotAbove wsX0_rungNotAbove) := goodIn_app (goodIn_of _ (by decide +kernel)) ggX0_nearestRung_X0_rungNotAbove
set_option maxRecDepth 20000 in
theorem ggX0_nearestRung_X0_rungAbove : GoodIn wsX0_nearestRung wsX0_rungAbove := goodIn_r _ [23, 6, 7, 8, 4, 9, 10, 11, 12, 13, 14, 15, 16, 17, 18, 19, 24, 25, 26, 27, 28, 29, 30, 31, 32, 33, 34, 35] (by decide +kernel) (by decide +kernel)
set_option maxRecDepth 20000 in
theorem gX0_nearestRung_X0_rungAbove : GoodIn wsX0_nearestRung (wsV RX0 141 RX0 yX0_rungAbove wsX0_rungAbove) := goodIn_app (goodIn_of _ (by decide +kernel)) ggX0_nearestRung_X0_rungAbove
theorem dX0_nearestRung_0 : decode cX0_nearestRung 0 = .ok (.aload_n 0, 1) := by decide +kernel
theorem dX0_nearestRung_1 : decode cX0_nearestRung 1 = .ok (.iload_n 1, 1) := by decide +kernel
theorem dX0_nearestRung_2 : decode cX0_nearestRung 2 = .ok (.invokevirtual 138, 3) := by decide +kernel
theorem dX0_nearestRung_5 : decode cX0_nearestRung 5 = .ok (.istore_n 2, 1) := by decide +kernel
theorem dX0_nearestRung_6 : decode cX0_nearestRung 6 = .ok (.aload_n 0, 1) := by decide +kernel
theorem dX0_nearestRung_7 : decode cX0_nearestRung 7 = .ok (.iload_n 1, 1) := by decide +kernel
theorem dX0_nearestRung_8 : decode cX0_nearestRung 8 = .ok (.invokevirtual 141, 3) := by decide +kernel
theorem dX0_nearestRung_11 : decode cX0_nearestRung 11 = .ok (.istore_n 3, 1) := by decide +kernel
theorem dX0_nearestRung_12 : decode cX0_nearestRung 12 = .ok (.iload_n 2, 1) := by decide +kernel
theorem dX0_nearestRung_13 : decode cX0_nearestRung 13 = .ok (.iconst (-1), 1) := by decide +kernel
theorem dX0_nearestRung_14 : decode cX0_nearestRung 14 = .ok (.if_icmp .ne 5, 3) := by decide +kernel
theorem dX0_nearestRung_17 : decode cX0_nearestRung 17 = .ok (.iload_n 3, 1) := by decide +kernel
theorem dX0_nearestRung_18 : decode cX0_nearestRung 18 = .ok (.ireturn, 1) := by decide +kernel
theorem dX0_nearestRung_19 : decode cX0_nearestRung 19 = .ok (.iload_n 3, 1) := by decide +kernel
theorem dX0_nearestRung_20 : decode cX0_nearestRung 20 = .ok (.iconst (-1), 1) := by decide +kernel
theorem dX0_nearestRung_21 : decode cX0_nearestRung 21 = .ok (.if_icmp .eq 12, 3) := by decide +kernel
theorem dX0_nearestRung_24 : decode cX0_nearestRung 24 = .ok (.iload_n 1, 1) := by decide +kernel
theorem dX0_nearestRung_25 : decode cX0_nearestRung 25 = .ok (.iload_n 2, 1) := by decide +kernel
theorem dX0_nearestRung_26 : decode cX0_nearestRung 26 = .ok (.isub, 1) := by decide +kernel
theorem dX0_nearestRung_27 : decode cX0_nearestRung 27 = .ok (.iload_n 3, 1) := by decide +kernel
theorem dX0_nearestRung_28 : decode cX0_nearestRung 28 = .ok (.iload_n 1, 1) := by decide +kernel
theorem dX0_nearestRung_29 : decode cX0_nearestRung 29 = .ok (.isub, 1) := by decide +kernel
theorem dX0_nearestRung_30 : decode cX0_nearestRung 30 = .ok (.if_icmp .gt 5, 3) := by decide +kernel
theorem dX0_nearestRung_33 : decode cX0_nearestRung 33 = .ok (.iload_n 2, 1) := by decide +kernel
theorem dX0_nearestRung_34 : decode cX0_nearestRung 34 = .ok (.ireturn, 1) := by decide +kernel
theorem dX0_nearestRung_35 : decode cX0_nearestRung 35 = .ok (.iload_n 3, 1) := by decide +kernel
theorem dX0_nearestRung_36 : decode cX0_nearestRung 36 = .ok (.ireturn, 1) := by decide +kernel
set_option maxRecDepth 20000 in
theorem ggX0_rungNotAbove_X0_stepAt : GoodIn wsX0_rungNotAbove wsX0_stepAt := goodIn_r _ [5, 6, 7, 8, 9, 4, 10, 11, 12, 13, 14, 15, 16, 17, 18, 19, 20, 21, 22, 23, 24, 25, 26, 27] (by decide +kernel) (by decide +kernel)
set_option maxRecDepth 20000 in
theorem gX0_rungNotAbove_X0_stepAt : GoodIn wsX0_rungNotAbove (wsV RX0 82 RX0 yX0_stepAt wsX0_stepAt) := goodIn_app (goodIn_of _ (by decide +kernel)) ggX0_rungNotAbove_X0_stepAt
theorem dX0_rungNotAbove_0 : decode cX0_rungNotAbove 0 = .ok (.iload_n 1, 1) := by decide +kernel
theorem dX0_rungNotAbove_1 : decode cX0_rungNotAbove 1 = .ok (.iload_n 1, 1) := by decide +kernel
theorem dX0_rungNotAbove_2 : decode cX0_rungNotAbove 2 = .ok (.bipush 100, 2) := by decide +kernel
theorem dX0_rungNotAbove_4 : decode cX0_rungNotAbove 4 = .ok (.irem, 1) := by decide +kernel
theorem dX0_rungNotAbove_5 : decode cX0_rungNotAbove 5 = .ok (.isub, 1) := by decide +kernel
theorem dX0_rungNotAbove_6 : decode cX0_rungNotAbove 6 = .ok (.istore_n 2, 1) := by decide +kernel
theorem dX0_rungNotAbove_7 : decode cX0_rungNotAbove 7 = .ok (.iload_n 2, 1) := by decide +kernel
theorem dX0_rungNotAbove_8 : decode cX0_rungNotAbove 8 = .ok (.ifCond .lt 20, 3) := by decide +kernel
theorem dX0_rungNotAbove_11 : decode cX0_rungNotAbove 11 = .ok (.aload_n 0, 1) := by decide +kernel
theorem dX0_rungNotAbove_12 : decode cX0_rungNotAbove 12 = .ok (.iload_n 2, 1) := by decide +kernel
theorem dX0_rungNotAbove_13 : decode cX0_rungNotAbove 13 = .ok (.invokevirtual 82, 3) := by decide +kernel
theorem dX0_rungNotAbove_16 : decode cX0_rungNotAbove 16 = .ok (.iconst (-1), 1) := by decide +kernel
theorem dX0_rungNotAbove_17 : decode cX0_rungNotAbove 17 = .ok (.if_icmp .eq 5, 3) := by decide +kernel
theorem dX0_rungNotAbove_20 : decode cX0_rungNotAbove 20 = .ok (.iload_n 2, 1) := by decide +kernel
theorem dX0_rungNotAbove_21 : decode cX0_rungNotAbove 21 = .ok (.ireturn, 1) := by decide +kernel
theorem dX0_rungNotAbove_22 : decode cX0_rungNotAbove 22 = .ok (.iinc 2 (-100), 3) := by decide +kernel
theorem dX0_rungNotAbove_25 : decode cX0_rungNotAbove 25 = .ok (.goto (-18), 3) := by decide +kernel
theorem dX0_rungNotAbove_28 : decode cX0_rungNotAbove 28 = .ok (.iconst (-1), 1) := by decide +kernel
theorem dX0_rungNotAbove_29 : decode cX0_rungNotAbove 29 = .ok (.ireturn, 1) := by decide +kernel
set_option maxRecDepth 20000 in
theorem ggX0_rungAbove_X0_stepAt : GoodIn wsX0_rungAbove wsX0_stepAt := goodIn_r _ [5, 6, 7, 8, 9, 4, 10, 11, 12, 13, 14, 15, 16, 17, 18, 19, 20, 21, 22, 23, 24, 25, 26, 27] (by decide +kernel) (by decide +kernel)
set_option maxRecDepth 20000 in
theorem gX0_rungAbove_X0_stepAt : GoodIn wsX0_rungAbove (wsV RX0 82 RX0 yX0_stepAt wsX0_stepAt) := goodIn_app (goodIn_of _ (by decide +kernel)) ggX0_rungAbove_X0_stepAt
theorem dX0_rungAbove_0 : decode cX0_rungAbove 0 = .ok (.iload_n 1, 1) := by decide +kernel
theorem dX0_rungAbove_1 : decode cX0_rungAbove 1 = .ok (.iload_n 1, 1) := by decide +kernel
theorem dX0_rungAbove_2 : decode cX0_rungAbove 2 = .ok (.bipush 100, 2) := by decide +kernel
theorem dX0_rungAbove_4 : decode cX0_rungAbove 4 = .ok (.irem, 1) := by decide +kernel
theorem dX0_rungAbove_5 : decode cX0_rungAbove 5 = .ok (.isub, 1) := by decide +kernel
theorem dX0_rungAbove_6 : decode cX0_rungAbove 6 = .ok (.bipush 100, 2) := by decide +kernel
theorem dX0_rungAbove_8 : decode cX0_rungAbove 8 = .ok (.iadd, 1) := by decide +kernel
theorem dX0_rungAbove_9 : decode cX0_rungAbove 9 = .ok (.istore_n 2, 1) := by decide +kernel
theorem dX0_rungAbove_10 : decode cX0_rungAbove 10 = .ok (.iload_n 2, 1) := by decide +kernel
theorem dX0_rungAbove_11 : decode cX0_rungAbove 11 = .ok (.sipush 12000, 3) := by decide +kernel
theorem dX0_rungAbove_14 : decode cX0_rungAbove 14 = .ok (.if_icmp .gt 20, 3) := by decide +kernel
theorem dX0_rungAbove_17 : decode cX0_rungAbove 17 = .ok (.aload_n 0, 1) := by decide +kernel
theorem dX0_rungAbove_18 : decode cX0_rungAbove 18 = .ok (.iload_n 2, 1) := by decide +kernel
theorem dX0_rungAbove_19 : decode cX0_rungAbove 19 = .ok (.invokevirtual 82, 3) := by decide +kernel
theorem dX0_rungAbove_22 : decode cX0_rungAbove 22 = .ok (.iconst (-1), 1) := by decide +kernel
theorem dX0_rungAbove_23 : decode cX0_rungAbove 23 = .ok (.if_icmp .eq 5, 3) := by decide +kernel
theorem dX0_rungAbove_26 : decode cX0_rungAbove 26 = .ok (.iload_n 2, 1) := by decide +kernel
theorem dX0_rungAbove_27 : decode cX0_rungAbove 27 = .ok (.ireturn, 1) := by decide +kernel
theorem dX0_rungAbove_28 : decode cX0_rungAbove 28 = .ok (.iinc 2 100, 3) := by decide +kernel
theorem dX0_rungAbove_31 : decode cX0_rungAbove 31 = .ok (.goto (-21), 3) := by decide +kernel
theorem dX0_rungAbove_34 : decode cX0_rungAbove 34 = .ok (.iconst (-1), 1) := by decide +kernel
theorem dX0_rungAbove_35 : decode cX0_rungAbove 35 = .ok (.ireturn, 1) := by decide +kernel
set_option maxRecDepth 20000 in
theorem ggX0_nearestSemitone_J9_floorMod_7cf53 : GoodIn wsX0_nearestSemitone wsJ9_floorMod_7cf53 := goodIn_r _ [4] (by decide +kernel) (by decide +kernel)
set_option maxRecDepth 20000 in
theorem gX0_nearestSemitone_J9_floorMod_7cf53 : GoodIn wsX0_nearestSemitone (va_wsS RX0 132 yJ9_floorMod_7cf53 wsJ9_floorMod_7cf53) := goodIn_app (goodIn_of _ (by decide +kernel)) ggX0_nearestSemitone_J9_floorMod_7cf53
theorem dX0_nearestSemitone_0 : decode cX0_nearestSemitone 0 = .ok (.iload_n 0, 1) := by decide +kernel
theorem dX0_nearestSemitone_1 : decode cX0_nearestSemitone 1 = .ok (.bipush 50, 2) := by decide +kernel
theorem dX0_nearestSemitone_3 : decode cX0_nearestSemitone 3 = .ok (.iadd, 1) := by decide +kernel
theorem dX0_nearestSemitone_4 : decode cX0_nearestSemitone 4 = .ok (.bipush 100, 2) := by decide +kernel
theorem dX0_nearestSemitone_6 : decode cX0_nearestSemitone 6 = .ok (.idiv, 1) := by decide +kernel
theorem dX0_nearestSemitone_7 : decode cX0_nearestSemitone 7 = .ok (.bipush 12, 2) := by decide +kernel
theorem dX0_nearestSemitone_9 : decode cX0_nearestSemitone 9 = .ok (.invokestatic 132, 3) := by decide +kernel
theorem dX0_nearestSemitone_12 : decode cX0_nearestSemitone 12 = .ok (.ireturn, 1) := by decide +kernel
set_option maxRecDepth 20000 in
theorem ggX0_framesWithin_X0_stepAbove : GoodIn wsX0_framesWithin wsX0_stepAbove := goodIn_r _ [5, 6, 7, 8, 9, 10] (by decide +kernel) (by decide +kernel)
set_option maxRecDepth 20000 in
theorem gX0_framesWithin_X0_stepAbove : GoodIn wsX0_framesWithin (va_wsS RX0 129 yX0_stepAbove wsX0_stepAbove) := goodIn_app (goodIn_of _ (by decide +kernel)) ggX0_framesWithin_X0_stepAbove
theorem dX0_framesWithin_0 : decode cX0_framesWithin 0 = .ok (.iconst 0, 1) := by decide +kernel
theorem dX0_framesWithin_1 : decode cX0_framesWithin 1 = .ok (.istore_n 3, 1) := by decide +kernel
theorem dX0_framesWithin_2 : decode cX0_framesWithin 2 = .ok (.iconst 0, 1) := by decide +kernel
theorem dX0_framesWithin_3 : decode cX0_framesWithin 3 = .ok (.istore 4, 2) := by decide +kernel
theorem dX0_framesWithin_5 : decode cX0_framesWithin 5 = .ok (.iload 4, 2) := by decide +kernel
theorem dX0_framesWithin_7 : decode cX0_framesWithin 7 = .ok (.bipush 12, 2) := by decide +kernel
theorem dX0_framesWithin_9 : decode cX0_framesWithin 9 = .ok (.if_icmp .ge 31, 3) := by decide +kernel
theorem dX0_framesWithin_12 : decode cX0_framesWithin 12 = .ok (.iload 4, 2) := by decide +kernel
theorem dX0_framesWithin_14 : decode cX0_framesWithin 14 = .ok (.iload_n 1, 1) := by decide +kernel
theorem dX0_framesWithin_15 : decode cX0_framesWithin 15 = .ok (.isub, 1) := by decide +kernel
theorem dX0_framesWithin_16 : decode cX0_framesWithin 16 = .ok (.iload_n 2, 1) := by decide +kernel
theorem dX0_framesWithin_17 : decode cX0_framesWithin 17 = .ok (.invokestatic 129, 3) := by decide +kernel
theorem dX0_framesWithin_20 : decode cX0_framesWithin 20 = .ok (.iconst (-1), 1) := by decide +kernel
theorem dX0_framesWithin_21 : decode cX0_framesWithin 21 = .ok (.if_icmp .eq 13, 3) := by decide +kernel
theorem dX0_framesWithin_24 : decode cX0_framesWithin 24 = .ok (.iload_n 3, 1) := by decide +kernel
theorem dX0_framesWithin_25 : decode cX0_framesWithin 25 = .ok (.aload_n 0, 1) := by decide +kernel
theorem dX0_framesWithin_26 : decode cX0_framesWithin 26 = .ok (.getfield 28, 3) := by decide +kernel
theorem dX0_framesWithin_29 : decode cX0_framesWithin 29 = .ok (.iload 4, 2) := by decide +kernel
theorem dX0_framesWithin_31 : decode cX0_framesWithin 31 = .ok (.iaload, 1) := by decide +kernel
theorem dX0_framesWithin_32 : decode cX0_framesWithin 32 = .ok (.iadd, 1) := by decide +kernel
theorem dX0_framesWithin_33 : decode cX0_framesWithin 33 = .ok (.istore_n 3, 1) := by decide +kernel
theorem dX0_framesWithin_34 : decode cX0_framesWithin 34 = .ok (.iinc 4 1, 3) := by decide +kernel
theorem dX0_framesWithin_37 : decode cX0_framesWithin 37 = .ok (.goto (-32), 3) := by decide +kernel
theorem dX0_framesWithin_40 : decode cX0_framesWithin 40 = .ok (.iload_n 3, 1) := by decide +kernel
theorem dX0_framesWithin_41 : decode cX0_framesWithin 41 = .ok (.ireturn, 1) := by decide +kernel
theorem dX0_areInOctaves_0 : decode cX0_areInOctaves 0 = .ok (.iload_n 0, 1) := by decide +kernel
theorem dX0_areInOctaves_1 : decode cX0_areInOctaves 1 = .ok (.iconst (-1), 1) := by decide +kernel
theorem dX0_areInOctaves_2 : decode cX0_areInOctaves 2 = .ok (.if_icmp .eq 22, 3) := by decide +kernel
theorem dX0_areInOctaves_5 : decode cX0_areInOctaves 5 = .ok (.iload_n 1, 1) := by decide +kernel
theorem dX0_areInOctaves_6 : decode cX0_areInOctaves 6 = .ok (.iconst (-1), 1) := by decide +kernel
theorem dX0_areInOctaves_7 : decode cX0_areInOctaves 7 = .ok (.if_icmp .eq 17, 3) := by decide +kernel
theorem dX0_areInOctaves_10 : decode cX0_areInOctaves 10 = .ok (.iload_n 0, 1) := by decide +kernel
theorem dX0_areInOctaves_11 : decode cX0_areInOctaves 11 = .ok (.iload_n 1, 1) := by decide +kernel
theorem dX0_areInOctaves_12 : decode cX0_areInOctaves 12 = .ok (.isub, 1) := by decide +kernel
theorem dX0_areInOctaves_13 : decode cX0_areInOctaves 13 = .ok (.sipush 1200, 3) := by decide +kernel
theorem dX0_areInOctaves_16 : decode cX0_areInOctaves 16 = .ok (.irem, 1) := by decide +kernel
theorem dX0_areInOctaves_17 : decode cX0_areInOctaves 17 = .ok (.ifCond .ne 7, 3) := by decide +kernel
theorem dX0_areInOctaves_20 : decode cX0_areInOctaves 20 = .ok (.iconst 1, 1) := by decide +kernel
theorem dX0_areInOctaves_21 : decode cX0_areInOctaves 21 = .ok (.goto 4, 3) := by decide +kernel
theorem dX0_areInOctaves_24 : decode cX0_areInOctaves 24 = .ok (.iconst 0, 1) := by decide +kernel
theorem dX0_areInOctaves_25 : decode cX0_areInOctaves 25 = .ok (.ireturn, 1) := by decide +kernel
theorem dJ9_floorDiv_7cf53_0 : decode cJ9_floorDiv_7cf53 0 = .ok (.iload_n 0, 1) := by decide +kernel
theorem dJ9_floorDiv_7cf53_1 : decode cJ9_floorDiv_7cf53 1 = .ok (.iload_n 1, 1) := by decide +kernel
theorem dJ9_floorDiv_7cf53_2 : decode cJ9_floorDiv_7cf53 2 = .ok (.idiv, 1) := by decide +kernel
theorem dJ9_floorDiv_7cf53_3 : decode cJ9_floorDiv_7cf53 3 = .ok (.istore_n 2, 1) := by decide +kernel
theorem dJ9_floorDiv_7cf53_4 : decode cJ9_floorDiv_7cf53 4 = .ok (.iload_n 0, 1) := by decide +kernel
theorem dJ9_floorDiv_7cf53_5 : decode cJ9_floorDiv_7cf53 5 = .ok (.iload_n 1, 1) := by decide +kernel
theorem dJ9_floorDiv_7cf53_6 : decode cJ9_floorDiv_7cf53 6 = .ok (.ixor, 1) := by decide +kernel
theorem dJ9_floorDiv_7cf53_7 : decode cJ9_floorDiv_7cf53 7 = .ok (.ifCond .ge 14, 3) := by decide +kernel
theorem dJ9_floorDiv_7cf53_10 : decode cJ9_floorDiv_7cf53 10 = .ok (.iload_n 2, 1) := by decide +kernel
theorem dJ9_floorDiv_7cf53_11 : decode cJ9_floorDiv_7cf53 11 = .ok (.iload_n 1, 1) := by decide +kernel
theorem dJ9_floorDiv_7cf53_12 : decode cJ9_floorDiv_7cf53 12 = .ok (.imul, 1) := by decide +kernel
theorem dJ9_floorDiv_7cf53_13 : decode cJ9_floorDiv_7cf53 13 = .ok (.iload_n 0, 1) := by decide +kernel
theorem dJ9_floorDiv_7cf53_14 : decode cJ9_floorDiv_7cf53 14 = .ok (.if_icmp .eq 7, 3) := by decide +kernel
theorem dJ9_floorDiv_7cf53_17 : decode cJ9_floorDiv_7cf53 17 = .ok (.iload_n 2, 1) := by decide +kernel
theorem dJ9_floorDiv_7cf53_18 : decode cJ9_floorDiv_7cf53 18 = .ok (.iconst 1, 1) := by decide +kernel
theorem dJ9_floorDiv_7cf53_19 : decode cJ9_floorDiv_7cf53 19 = .ok (.isub, 1) := by decide +kernel
theorem dJ9_floorDiv_7cf53_20 : decode cJ9_floorDiv_7cf53 20 = .ok (.ireturn, 1) := by decide +kernel
theorem dJ9_floorDiv_7cf53_21 : decode cJ9_floorDiv_7cf53 21 = .ok (.iload_n 2, 1) := by decide +kernel
theorem dJ9_floorDiv_7cf53_22 : decode cJ9_floorDiv_7cf53 22 = .ok (.ireturn, 1) := by decide +kernel
theorem dJ9_floorMod_7cf53_0 : decode cJ9_floorMod_7cf53 0 = .ok (.iload_n 0, 1) := by decide +kernel
theorem dJ9_floorMod_7cf53_1 : decode cJ9_floorMod_7cf53 1 = .ok (.iload_n 1, 1) := by decide +kernel
theorem dJ9_floorMod_7cf53_2 : decode cJ9_floorMod_7cf53 2 = .ok (.irem, 1) := by decide +kernel
theorem dJ9_floorMod_7cf53_3 : decode cJ9_floorMod_7cf53 3 = .ok (.istore_n 2, 1) := by decide +kernel
theorem dJ9_floorMod_7cf53_4 : decode cJ9_floorMod_7cf53 4 = .ok (.iload_n 0, 1) := by decide +kernel
theorem dJ9_floorMod_7cf53_5 : decode cJ9_floorMod_7cf53 5 = .ok (.iload_n 1, 1) := by decide +kernel
theorem dJ9_floorMod_7cf53_6 : decode cJ9_floorMod_7cf53 6 = .ok (.ixor, 1) := by decide +kernel
theorem dJ9_floorMod_7cf53_7 : decode cJ9_floorMod_7cf53 7 = .ok (.ifCond .ge 11, 3) := by decide +kernel
theorem dJ9_floorMod_7cf53_10 : decode cJ9_floorMod_7cf53 10 = .ok (.iload_n 2, 1) := by decide +kernel
theorem dJ9_floorMod_7cf53_11 : decode cJ9_floorMod_7cf53 11 = .ok (.ifCond .eq 7, 3) := by decide +kernel
theorem dJ9_floorMod_7cf53_14 : decode cJ9_floorMod_7cf53 14 = .ok (.iload_n 2, 1) := by decide +kernel
theorem dJ9_floorMod_7cf53_15 : decode cJ9_floorMod_7cf53 15 = .ok (.iload_n 1, 1) := by decide +kernel
theorem dJ9_floorMod_7cf53_16 : decode cJ9_floorMod_7cf53 16 = .ok (.iadd, 1) := by decide +kernel
theorem dJ9_floorMod_7cf53_17 : decode cJ9_floorMod_7cf53 17 = .ok (.ireturn, 1) := by decide +kernel
theorem dJ9_floorMod_7cf53_18 : decode cJ9_floorMod_7cf53 18 = .ok (.iload_n 2, 1) := by decide +kernel
theorem dJ9_floorMod_7cf53_19 : decode cJ9_floorMod_7cf53 19 = .ok (.ireturn, 1) := by decide +kernel
theorem dJ9_abs_0f7a4_0 : decode cJ9_abs_0f7a4 0 = .ok (.iload_n 0, 1) := by decide +kernel
theorem dJ9_abs_0f7a4_1 : decode cJ9_abs_0f7a4 1 = .ok (.ifCond .ge 8, 3) := by decide +kernel
theorem dJ9_abs_0f7a4_4 : decode cJ9_abs_0f7a4 4 = .ok (.iload_n 0, 1) := by decide +kernel
theorem dJ9_abs_0f7a4_5 : decode cJ9_abs_0f7a4 5 = .ok (.ineg, 1) := by decide +kernel
theorem dJ9_abs_0f7a4_6 : decode cJ9_abs_0f7a4 6 = .ok (.goto 4, 3) := by decide +kernel
theorem dJ9_abs_0f7a4_9 : decode cJ9_abs_0f7a4 9 = .ok (.iload_n 0, 1) := by decide +kernel
theorem dJ9_abs_0f7a4_10 : decode cJ9_abs_0f7a4 10 = .ok (.ireturn, 1) := by decide +kernel
theorem dJ9_max_7cf53_0 : decode cJ9_max_7cf53 0 = .ok (.iload_n 0, 1) := by decide +kernel
theorem dJ9_max_7cf53_1 : decode cJ9_max_7cf53 1 = .ok (.iload_n 1, 1) := by decide +kernel
theorem dJ9_max_7cf53_2 : decode cJ9_max_7cf53 2 = .ok (.if_icmp .lt 7, 3) := by decide +kernel
theorem dJ9_max_7cf53_5 : decode cJ9_max_7cf53 5 = .ok (.iload_n 0, 1) := by decide +kernel
theorem dJ9_max_7cf53_6 : decode cJ9_max_7cf53 6 = .ok (.goto 4, 3) := by decide +kernel
theorem dJ9_max_7cf53_9 : decode cJ9_max_7cf53 9 = .ok (.iload_n 1, 1) := by decide +kernel
theorem dJ9_max_7cf53_10 : decode cJ9_max_7cf53 10 = .ok (.ireturn, 1) := by decide +kernel
theorem dJ9_min_7cf53_0 : decode cJ9_min_7cf53 0 = .ok (.iload_n 0, 1) := by decide +kernel
theorem dJ9_min_7cf53_1 : decode cJ9_min_7cf53 1 = .ok (.iload_n 1, 1) := by decide +kernel
theorem dJ9_min_7cf53_2 : decode cJ9_min_7cf53 2 = .ok (.if_icmp .gt 7, 3) := by decide +kernel
theorem dJ9_min_7cf53_5 : decode cJ9_min_7cf53 5 = .ok (.iload_n 0, 1) := by decide +kernel
theorem dJ9_min_7cf53_6 : decode cJ9_min_7cf53 6 = .ok (.goto 4, 3) := by decide +kernel
theorem dJ9_min_7cf53_9 : decode cJ9_min_7cf53 9 = .ok (.iload_n 1, 1) := by decide +kernel
theorem dJ9_min_7cf53_10 : decode cJ9_min_7cf53 10 = .ok (.ireturn, 1) := by decide +kernel
end
section
/-! the pure words: what both sides compute -/
theorem fa_lt (a b : Int32) : a < b ↔ a.toInt < b.toInt := Int32.lt_iff_toInt_lt
theorem fa_le (a b : Int32) : a ≤ b ↔ a.toInt ≤ b.toInt := Int32.le_iff_toInt_le
theorem fa_eq (a b : Int32) : a = b ↔ a.toInt = b.toInt := Int32.toInt_inj.symm
def zb (P : Prop) [Decidable P] : Int32 := if P then 1 else 0
theorem zb_1 {P : Prop} [Decidable P] (h : P) : zb P = 1 := if_pos h
theorem zb_0 {P : Prop} [Decidable P] (h : ¬ P) : zb P = 0 := if_neg h
theorem zb_f {P : Prop} [Decidable P] (h : zb P = 0) : ¬ P := fun q => by rw [zb_1 q] at h; exact absurd h (by decide)
theorem zb_t {P : Prop} [Decidable P] (h : ¬ zb P = 0) : P := by
  by_cases q : P
  · exact q
  · exact absurd (zb_0 q) h
abbrev S7 : Type := (Nat → Int32) × (Nat → Int32) × (Nat → Int32) × (Nat → Int32) × (Nat → Int32) × (Nat → Int32) × (Nat → Int32)
abbrev C5 : Type := Nat × Nat × Int32 × Int32 × Int32
/-- the semitones of the step i of the mode md, from its key on -/
def zMaj (n : Nat) : Nat := n / 7 * 12 + (if n % 7 < 3 then 2 * (n % 7) else 2 * (n % 7) - 1)
def zT (md i : Nat) : Nat := if md = 7 then i else zMaj (md + i) - zMaj md
def zN (md : Nat) : Nat := if md = 7 then 12 else 7
def zStn (md k : Nat) : Nat → Int32
  | 0 => -1
  | i + 1 => if zT md i = k then nI i else zStn md k i
def zSt (md k : Nat) : Int32 := zStn md k (zN md)
def zST : Nat → Nat
  | 0 => 0
  | 1 => 2
  | 2 => 4
  | 3 => 5
  | 4 => 7
  | 5 => 9
  | _ => 11
def zFM (x : Int32) (d : Nat) : Int32 := nI (x.toInt % d).toNat
theorem zSt_7 : ∀ k, k < 12 → zSt 7 k = nI k := by decide +kernel
theorem zSt_in : ∀ md, md < 7 → ∀ i, i < 7 → zSt md (zT md i) = nI i := by decide +kernel
theorem zSt_out : ∀ md, md < 7 → ∀ k, k < 12 → (∀ i, i < 7 → ¬ zT md i = k) → zSt md k = -1 := by decide +kernel
theorem zSt_neg : ∀ md, md < 8 → ∀ k, k < 12 → (zSt md k < 0 ↔ zSt md k = -1) := by decide +kernel
theorem zST_d : ∀ md, md < 7 → ∀ i, i < 7 → zFM (nI (zST ((md + i) % 7)) - nI (zST (md % 7))) 12 = nI (zT md i) := by decide +kernel
theorem zT_lt : ∀ md, md < 7 → ∀ i, i < 7 → zT md i < 12 := by decide +kernel
/-- which step of the scale's mode a pitch is; -1: no rung -/
def zStep (c : C5) (p : Int32) : Int32 := if 0 ≤ p ∧ p ≤ 12000 ∧ p - p / 100 * 100 = 0 then zSt c.2.1 ((p.toNatClampNeg / 100 + 12 - c.1) % 12) else -1
def okC (c : C5) : Prop := c.1 < 12 ∧ c.2.1 < 8 ∧ 0 ≤ c.2.2.1
theorem zStep_neg {c : C5} (hc : okC c) (p : Int32) : zStep c p < 0 ↔ zStep c p = -1 := by
  unfold zStep
  by_cases h : 0 ≤ p ∧ p ≤ 12000 ∧ p - p / 100 * 100 = 0
  · rw [if_pos h]; exact zSt_neg _ hc.2.1 _ (Nat.mod_lt _ (by decide))
  · rw [if_neg h]; decide
def zFar (r p : Int32) : Int32 := if r < p then p - r else r - p
def zNearN (c : C5) (p : Int32) : Nat → Int32
  | 0 => -1
  | k + 1 => if ¬ zStep c (nI (100 * k)) < 0 ∧ (zNearN c p k < 0 ∨ zFar (nI (100 * k)) p < zFar (zNearN c p k) p) then nI (100 * k) else zNearN c p k
def zNear (c : C5) (p : Int32) : Int32 := zNearN c p 121
def zAbs (x : Int32) : Int32 := if 0 ≤ x then x else 0 - x
def zNext (c : C5) (r p : Int32) : Int32 := if ¬ r = -1 ∧ zAbs (p - r) ≤ c.2.2.2.1 then r else zNear c p
def zTow (sp n due : Int32) : Int32 := n + (if (due - n) * sp / 100 = 0 ∧ ¬ sp = 0 then (if 0 < due - n then 1 else if due - n < 0 then -1 else 0) else (due - n) * sp / 100)
abbrev zChg (r0 r : Int32) : Prop := ¬ r0 = -1 ∧ ¬ r0 = r
abbrev zLeap (c : C5) (r0 r : Int32) : Prop := zChg r0 r ∧ c.2.2.2.2 < zAbs (r - r0)
def zNud (c : C5) (r0 n0 r p : Int32) : Int32 := if zLeap c r0 r then 0 else zTow c.2.2.1 n0 (r - p)
def zB (b : Prop) [Decidable b] (f : Nat → Int32) (i : Nat) : Nat → Int32 := if b then upd f i (f i + 1) else f
def zSem (p : Int32) : Nat := (p.toNatClampNeg + 50) / 100 % 12
/-- a frame is sung: the rung, the nudge; the state behind it; what is let out -/
def zR (c : C5) (i : Nat) (p : Int32) (z : S7) : Int32 := zNext c (z.1 i) p
def zG (c : C5) (i : Nat) (p : Int32) (z : S7) : Int32 := zNud c (z.1 i) (z.2.1 i) (zR c i p z) p
def zOut (c : C5) (i : Nat) (p : Int32) (z : S7) : Int32 := p + zG c i p z
def zSg (c : C5) (i : Nat) (p : Int32) (z : S7) : S7 := (upd z.1 i (zR c i p z), upd z.2.1 i (zG c i p z), upd z.2.2.1 i (z.2.2.1 i + 1), zB (zChg (z.1 i) (zR c i p z)) z.2.2.2.1 i, zB (zLeap c (z.1 i) (zR c i p z)) z.2.2.2.2.1 i, zB (¬ zStep c (zOut c i p z) = -1) z.2.2.2.2.2.1 i, upd z.2.2.2.2.2.2 (zSem p) (z.2.2.2.2.2.2 (zSem p) + 1))
/-- the pitch of the frame k of a slide of f frames -/
def zPit (a b : Int32) (f k : Nat) : Int32 := nI ((a.toNatClampNeg * (f - 1 - k) + b.toNatClampNeg * k) / (f - 1))
def zSl (c : C5) (i : Nat) (a b : Int32) (f : Nat) (z : S7) : Nat → S7
  | 0 => z
  | k + 1 => zSg c i (zPit a b f k) (zSl c i a b f z k)
def zWn (md ky : Nat) (g : Nat → Int32) : Nat → Int32
  | 0 => 0
  | k + 1 => zWn md ky g k + (if zSt md ((k + 12 - ky) % 12) < 0 then 0 else g k)
def zW (md ky : Nat) (g : Nat → Int32) : Int32 := zWn md ky g 12
def zBkn (md : Nat) (g : Nat → Int32) : Nat → Nat
  | 0 => 0
  | k + 1 => if zW md (zBkn md g k) g < zW md (k + 1) g then k + 1 else zBkn md g k
def zBk (md : Nat) (g : Nat → Int32) : Nat := zBkn md g 11
def zRcn (c : C5) : Nat → Int32
  | 0 => 0
  | k + 1 => zRcn c k + (if zStep c (nI (100 * k)) < 0 then 0 else 1)
def zRc (c : C5) : Int32 := zRcn c 121
def zRgn (c : C5) (num : Int32) : Nat → Int32
  | 0 => -1
  | k + 1 => if ¬ zStep c (nI (100 * k)) < 0 ∧ num = zRcn c k then nI (100 * k) else zRgn c num k
def zRg (c : C5) (num : Int32) : Int32 := zRgn c num 121
abbrev zOct (a b : Int32) : Prop := ¬ a = -1 ∧ ¬ b = -1 ∧ (a - b) - (a - b) / 1200 * 1200 = 0
def zIO (r : Nat → Int32) : Int32 := 0 + zb (zOct (r 0) (r 1)) + zb (zOct (r 0) (r 2)) + zb (zOct (r 0) (r 3)) + zb (zOct (r 1) (r 2)) + zb (zOct (r 1) (r 3)) + zb (zOct (r 2) (r 3))
def zFf (sp p r : Int32) : Nat → Nat → Int32 → Int32
  | 0, _, _ => -1
  | f + 1, k, n => if p + n = r then nI k else zFf sp p r f (k + 1) (zTow sp n (r - p))
def zFR (c : C5) (i : Nat) (p : Int32) (z : S7) : Int32 := zFf c.2.2.1 p (zR c i p z) 999 1 (zG c i p z)
def zLn (c : C5) (r : Nat → Int32) : Nat → (Nat → Int32) × Int32
  | 0 => (r, 0)
  | k + 1 => if ¬ (zLn c r k).1 k = -1 ∧ zStep c ((zLn c r k).1 k) = -1 then (upd (zLn c r k).1 k (-1), (zLn c r k).2 + 1) else zLn c r k
def zL (c : C5) (r : Nat → Int32) : (Nat → Int32) × Int32 := zLn c r 4
def okZ (z : S7) : Prop := ∀ i : Nat, z.1 i = -1 ∨ (0 ≤ z.1 i ∧ z.1 i ≤ 12000)
abbrev zw (w : Int32) : Prop := 0 ≤ w ∧ w ≤ 3
abbrev zp (p : Int32) : Prop := 0 ≤ p ∧ p ≤ 12000
theorem zw_in {w : Int32} (h : zw w) : vp_in w 4 := by
  refine vp_in_iff.mpr ⟨?_, ?_⟩
  · have := (fa_le _ _).mp h.1; simpa using this
  · have := (fa_le _ _).mp h.2; simp at this; omega
theorem zi_in {k n : Nat} (h : k < n) (hn : n < 2 ^ 31) : vp_in (nI k) n := vp_in_nI h hn
theorem z_inc (i k : Nat) : nI i + Int32.ofInt (k : Int) = nI (i + k) := by
  rw [← nI_add]; rfl
end
section
/-! the world of the class; what every method needs of the start -/
abbrev wX (h : Nat) (d : Nat → Nat) (cA : ClassId) (z : S7) (c : C5) : va_W := [(h, .inr (0, [.ref (d 0), .ref (d 1), .ref (d 2), .ref (d 3), .ref (d 4), .ref (d 5), .ref (d 6), .int (nI c.1), .int (nI c.2.1), .int c.2.2.1, .int c.2.2.2.1, .int c.2.2.2.2])), (d 0, .inl (cA, 4, .inl z.1)), (d 1, .inl (cA, 4, .inl z.2.1)), (d 2, .inl (cA, 4, .inl z.2.2.1)), (d 3, .inl (cA, 4, .inl z.2.2.2.1)), (d 4, .inl (cA, 4, .inl z.2.2.2.2.1)), (d 5, .inl (cA, 4, .inl z.2.2.2.2.2.1)), (d 6, .inl (cA, 12, .inl z.2.2.2.2.2.2))]
def zA (N0 : Nat) : Nat → Prop := fun q => N0 ≤ q
abbrev xI : String := "java/lang/IllegalArgumentException"
abbrev xO : String := "java/lang/IndexOutOfBoundsException"
abbrev zDw : List Cond := [.castable xI xI, .castable xO xO, .declares (Bundle.initS "java/lang/RuntimeException"), .declares (Bundle.initS "java/lang/Exception"), .declares (Bundle.initS Bundle.tN)]
def zDs (U : State) : Prop := va_Nw (.castable xI xI) U ∧ va_Nw (.castable xO xO) U ∧ va_Nw (.declares (Bundle.initS "java/lang/RuntimeException")) U ∧ va_Nw (.declares (Bundle.initS "java/lang/Exception")) U ∧ va_Nw (.declares (Bundle.initS Bundle.tN)) U
theorem zDs.warm {s U : State} (hW : s.WarmedH U.vm) (h : zDs s) : zDs U := ⟨va_Nw.warmC hW h.1, va_Nw.warmC hW h.2.1, va_Nw.warmD hW h.2.2.1, va_Nw.warmD hW h.2.2.2.1, va_Nw.warmD hW h.2.2.2.2⟩
theorem zDs.same {u U : State} (hv : u.vm = U.vm) (h : zDs u) : zDs U := ⟨va_Nw.same rfl hv h.1, va_Nw.same rfl hv h.2.1, va_Nw.same rfl hv h.2.2.1, va_Nw.same rfl hv h.2.2.2.1, va_Nw.same rfl hv h.2.2.2.2⟩
theorem zDs.use {U : State} {A : Array Value} (h : zDs U) : ∀ w ∈ zDw, w.before A U = true := vx_c (va_Nw.use rfl h.1) (vx_c (va_Nw.use rfl h.2.1) (vx_c (va_Nw.use rfl h.2.2.1) (vx_c (va_Nw.use rfl h.2.2.2.1) (vx_c (va_Nw.use rfl h.2.2.2.2) vx_n))))
def zEnv (N0 : Nat) (U : State) : Prop :=
  (∃ t : Nat, va_Z "TunedWrens" "STEPS" "[I" (.ref t) (zA N0) U U.heap ∧ va_T .int t 7 (fun j => .int (nI (zST j))) (zA N0) U U.heap) ∧
  vx_Zq Bundle.tN "UNASSIGNED_STACK" Bundle.steD (zA N0) U U.heap ∧ vx_Zq Bundle.tN "SUPPRESSED_SENTINEL" Bundle.listD (zA N0) U U.heap ∧
  (∃ a : Nat, vk_R RX0 108 "out of range" a U) ∧ (∃ a : Nat, vk_R RX0 104 "no such wren" a U) ∧ (∃ a : Nat, vk_R RX0 77 "no such rung" a U) ∧ (∃ a : Nat, vk_R RX0 95 "no such semitone" a U) ∧
  va_Nc xI xO U ∧ va_Nc xO xI U ∧ zDs U
theorem zEnv.call {N0 : Nat} {s U : State} {H : Heap} {locs : List Loc} (h : zEnv N0 s) (hS : va_S (zA N0) s.heap H locs) (hW : s.WarmedH U.vm) (hU : U.heap = H) : zEnv N0 U := by
  subst hU
  obtain ⟨⟨t, h1, h2⟩, h3, h4, ⟨a1, h5⟩, ⟨a2, h6⟩, ⟨a3, h7⟩, ⟨a4, h8⟩, h9, h10, h11⟩ := h
  have hk : ∀ a : Nat, a < s.heap.size → ¬ zA N0 a → U.heap[a]? = s.heap[a]? := hS.2.1
  exact ⟨⟨t, va_Z.moved hW.alike (h1.kept hk), va_T.moved hW.alike (h2.kept hk)⟩, vx_Zq.moved hW.alike (h3.kept hk), vx_Zq.moved hW.alike (h4.kept hk), ⟨a1, h5.warm hW⟩, ⟨a2, h6.warm hW⟩, ⟨a3, h7.warm hW⟩, ⟨a4, h8.warm hW⟩, h9.moved hW.alike, h10.moved hW.alike, h11.warm hW⟩
theorem zEnv.same {N0 : Nat} {u U : State} (hv : U.vm = u.vm) (hh : U.heap = u.heap) (h : zEnv N0 u) : zEnv N0 U := by
  have ha : u.vm.Alike U.vm := by rw [hv]; exact Vm.Alike.refl _
  obtain ⟨⟨t, h1, h2⟩, h3, h4, ⟨a1, h5⟩, ⟨a2, h6⟩, ⟨a3, h7⟩, ⟨a4, h8⟩, h9, h10, h11⟩ := h
  unfold zEnv
  rw [hh]
  exact ⟨⟨t, va_Z.moved ha h1, va_T.moved ha h2⟩, vx_Zq.moved ha h3, vx_Zq.moved ha h4, ⟨a1, h5.same hv⟩, ⟨a2, h6.same hv⟩, ⟨a3, h7.same hv⟩, ⟨a4, h8.same hv⟩, h9.moved ha, h10.moved ha, h11.same hv.symm⟩
def zPre (D : va_G) (N0 : Nat) (cA cL : ClassId) (W : va_W) (U : State) : Prop := N0 ≤ U.heap.size ∧ va_P D vwCl W U.heap ∧ va_D (zA N0) W ∧ va_K D vwCl [(cA, .int)] U ∧ zEnv N0 U
def zPost (D : va_G) (N0 : Nat) (W : va_W) (t : State) : Prop := va_P D vwCl W t.heap ∧ va_D (zA N0) W
theorem zPre.blind {D : va_G} {N0 : Nat} {cA cL : ClassId} {W : va_W} {av : List Value} : FrameBlind (va_Pc av (zPre D N0 cA cL W)) := by
  intro a U g mk h
  obtain ⟨h0, h1, h2, h3, h4, h5⟩ := h
  exact ⟨h0, h1, h2, h3, va_K.moved (u := U) (U := U.calling g mk a) (Vm.Alike.refl U.vm) h4, zEnv.same (u := U) (U := U.calling g mk a) rfl rfl h5⟩
theorem zPre.call {D : va_G} {N0 : Nat} {cA cL : ClassId} {W : va_W} {av : List Value} {s : State} {H : Heap} {locs : List Loc} (hN : N0 ≤ s.heap.size) (hP : va_P D vwCl W H) (hD : va_D (zA N0) W) (hK : va_K D vwCl [(cA, .int)] s) (hE : zEnv N0 s) (hS : va_S (zA N0) s.heap H locs) : ∀ U : State, U.heap = H → s.WarmedH U.vm → va_Pc av (zPre D N0 cA cL W) av.toArray U := fun U hU hW => ⟨rfl, by rw [hU]; exact Nat.le_trans hN hS.1, by rw [hU]; exact hP, hD, va_K.moved hW.alike hK, hE.call hS hW hU⟩
def zPe (N0 : Nat) (U : State) : Prop := N0 ≤ U.heap.size ∧ zEnv N0 U
theorem zPe.blind {N0 : Nat} {av : List Value} : FrameBlind (va_Pc av (zPe N0)) := by
  intro a U g mk h
  exact ⟨h.1, h.2.1, zEnv.same (u := U) (U := U.calling g mk a) rfl rfl h.2.2⟩
theorem zPe.call {N0 : Nat} {av : List Value} {s : State} {H : Heap} {locs : List Loc} (hN : N0 ≤ s.heap.size) (hE : zEnv N0 s) (hS : va_S (zA N0) s.heap H locs) : ∀ U : State, U.heap = H → s.WarmedH U.vm → va_Pc av (zPe N0) av.toArray U := fun U hU hW => ⟨rfl, by rw [hU]; exact Nat.le_trans hN hS.1, hE.call hS hW hU⟩
theorem zT.blind {av : List Value} : FrameBlind (va_Pc av (fun _ => True)) := fun _ _ _ _ h => ⟨h.1, trivial⟩
theorem zT.call {av : List Value} {s : State} {H : Heap} : ∀ U : State, U.heap = H → s.WarmedH U.vm → va_Pc av (fun _ => True) av.toArray U := fun _ _ _ => ⟨rfl, trivial⟩
theorem zx_woI : ∀ w ∈ (vx_atS RX0 110 xI ["java/lang/RuntimeException", "java/lang/Exception"]).filter (fun w => !goodWord w), w ∈ zDw := by decide +kernel
theorem zx_woO : ∀ w ∈ (vx_atS RX0 79 xO ["java/lang/RuntimeException", "java/lang/Exception"]).filter (fun w => !goodWord w), w ∈ zDw := by decide +kernel
/-- Met.ofW by the method's own name: no native stands in its place (java/lang/Math's own floorMod, floorDiv) -/
theorem zMet_ofW {l : Launch} {y : MethodName} {ws ws' : List Cond} {rm : Room} {Pc : Array Value → State → Prop} {Qc : Array Value → State → Outcome → State → Prop} {mc ms : Nat} {free : Addr → Prop} {cc : ByteArray} {maxL : Nat} {ret : Option FieldType}
    (hy : plainFor y = true) (hw : ws = Cond.code y cc maxL ret :: ws')
    (body : ∀ p e s m args below meth c s₁, BodyLoose p l y (headSpec ws rm) cc maxL ret e s m args below meth c s₁ → c.maxLocals = maxL → Pc args s →
      W p l e (headSpec ws rm).room s m args below meth c s.heap [] 0 0 (MQ below Qc args s mc ms free) (entryFrame m args maxL)) : Met l y ws rm Pc Qc mc ms free := by
  refine MetFree.of_bodySF (code := cc) (maxLocals := maxL) (ret := ret) hy ?_ ?_
  · intro args s m h hn
    obtain ⟨meth, c, h1, h2, h3, h4, h5, h6, -, -⟩ := Cond.code_spec hn (atoms_spec (ws := ws) h _ (by rw [hw]; exact List.mem_cons_self))
    exact ⟨meth, c, h1, h2, h3, h4, h5, h6⟩
  · intro p e s m args below meth c s₁ B hml hP _
    have hh0 : s₁.heap = s.heap := by rw [B.state]; rfl
    obtain ⟨t, a1, o, b1, b2, b3⟩ := body p e s m args below meth c s₁ B hml hP s₁ hh0 (Stand.of_body B)
    exact ⟨t, o, a1, b1, b2, ⟨b3.1, b3.2⟩⟩
end
section
theorem fb_rng (x : Int32) : -2147483648 ≤ x.toInt ∧ x.toInt < 2147483648 := by
  have h1 := Int32.le_toInt x
  have h2 := Int32.toInt_lt x
  omega
theorem fb_bmod {z : Int} (h1 : -2147483648 ≤ z) (h2 : z < 2147483648) : z.bmod (2 ^ 32) = z := by
  rw [Int.bmod_eq_of_le (by omega) (by omega)]
theorem fb_addI {x y : Int32} (h1 : -2147483648 ≤ x.toInt + y.toInt) (h2 : x.toInt + y.toInt < 2147483648) : (x + y).toInt = x.toInt + y.toInt := by
  rw [Int32.toInt_add, fb_bmod h1 h2]
theorem fb_subI {x y : Int32} (h1 : -2147483648 ≤ x.toInt - y.toInt) (h2 : x.toInt - y.toInt < 2147483648) : (x - y).toInt = x.toInt - y.toInt := by
  rw [Int32.toInt_sub, fb_bmod h1 h2]
theorem fb_mulI {x y : Int32} (h1 : -2147483648 ≤ x.toInt * y.toInt) (h2 : x.toInt * y.toInt < 2147483648) : (x * y).toInt = x.toInt * y.toInt := by
  rw [Int32.toInt_mul, fb_bmod h1 h2]
theorem fb_negI {x : Int32} (h : x.toInt ≠ -2147483648) : (-x).toInt = -x.toInt := by
  have := fb_rng x
  rw [Int32.toInt_neg, fb_bmod (by omega) (by omega)]
theorem zb_nar (P : Prop) [Decidable P] : narrow .boolean (.int (zb P)) = .int (zb P) := by
  by_cases h : P
  · rw [zb_1 h]; rfl
  · rw [zb_0 h]; rfl
theorem z_divI (x : Int32) {d : Nat} (h0 : 0 < d) (hd : d < 2 ^ 31) : (x / nI d).toInt = x.toInt.tdiv d := by
  have hx := fb_rng x
  have hdI : (nI d).toInt = (d : Int) := nI_toInt hd
  rw [Int32.toInt_div_of_ne_right _ _ (fun q => by have := congrArg Int32.toInt q; rw [hdI] at this; have h9 : (-1 : Int32).toInt = -1 := rfl; omega), hdI]
theorem z_rem (x : Int32) {d : Nat} (h0 : 0 < d) (hd : d < 2 ^ 31) : (x - x / nI d * nI d).toInt = x.toInt.tmod d := by
  have hx := fb_rng x
  have hdI : (nI d).toInt = (d : Int) := nI_toInt hd
  have e1 := z_divI x h0 hd
  have h2 := Int.mul_tdiv_self x.toInt (d : Int)
  have h3 : (x.toInt.tmod d).natAbs < d := by rw [Int.natAbs_tmod]; exact Nat.mod_lt _ (by omega)
  have h5 : x.toInt.tdiv d * (d : Int) = x.toInt - x.toInt.tmod d := by rw [Int.mul_comm]; exact h2
  have h6 : (x / nI d * nI d).toInt = x.toInt - x.toInt.tmod d := by
    rw [← h5, ← e1, ← hdI]
    refine fb_mulI ?_ ?_
    · rw [e1, hdI, h5]
      rcases Int.lt_or_le x.toInt 0 with q | q
      · have h4 : x.toInt.tmod d ≤ 0 := by
          have := Int.tmod_nonneg (a := -x.toInt) (d : Int) (by omega)
          rw [Int.neg_tmod] at this
          omega
        omega
      · have h4 : 0 ≤ x.toInt.tmod d := Int.tmod_nonneg _ q
        omega
    · rw [e1, hdI, h5]
      rcases Int.lt_or_le x.toInt 0 with q | q
      · omega
      · have h4 : 0 ≤ x.toInt.tmod d := Int.tmod_nonneg _ q
        omega
  rw [fb_subI (by omega) (by omega), h6]
  omega
theorem zFM_toInt (x : Int32) {d : Nat} (h0 : 0 < d) (hd : d < 2 ^ 31) : (zFM x d).toInt = x.toInt % d := by
  have h1 := Int.emod_nonneg x.toInt (show (d : Int) ≠ 0 by omega)
  have h2 := Int.emod_lt_of_pos x.toInt (show (0 : Int) < d by omega)
  unfold zFM
  rw [nI_toInt (by omega)]
  omega
theorem z_neg (x : Int32) : x < 0 ↔ x.toInt < 0 := by
  rw [fa_lt]
  have : (0 : Int32).toInt = 0 := rfl
  rw [this]
theorem z_xor (x y : Int32) : (x ^^^ y) < 0 ↔ ((x.toInt < 0) ≠ (y.toInt < 0)) := by
  rw [z_neg]
  have e : ∀ w : Int32, (w.toInt < 0) ↔ w.toBitVec.msb = true := by
    intro w
    rw [BitVec.msb_eq_toInt]
    show w.toBitVec.toInt < 0 ↔ _
    simp
  rw [e (x ^^^ y), Int32.toBitVec_xor, BitVec.msb_xor]
  have ex := e x
  have ey := e y
  cases h1 : x.toBitVec.msb <;> cases h2 : y.toBitVec.msb <;> simp_all
theorem zFM_1 (x : Int32) {d : Nat} (h0 : 0 < d) (hd : d < 2 ^ 31) (h : 0 ≤ (x ^^^ nI d)) : x - x / nI d * nI d = zFM x d := by
  rw [fa_eq, z_rem x h0 hd, zFM_toInt x h0 hd]
  have hdI : (nI d).toInt = (d : Int) := nI_toInt hd
  have h1 : ¬ ((x ^^^ nI d) < 0) := Int32.not_lt.mpr h
  rw [z_xor, hdI] at h1
  have h2 : 0 ≤ x.toInt := by
    rcases Int.lt_or_le x.toInt 0 with q | q
    · exact absurd (show (x.toInt < 0) ≠ ((d : Int) < 0) from fun e => by have := e ▸ q; omega) h1
    · exact q
  exact Int.tmod_eq_emod_of_nonneg h2
theorem zFM_s (x : Int32) {d : Nat} (hd : d < 2 ^ 31) (h : ¬ 0 ≤ (x ^^^ nI d)) : x.toInt < 0 := by
  have hdI : (nI d).toInt = (d : Int) := nI_toInt hd
  have h1 : (x ^^^ nI d) < 0 := Int32.not_le.mp h
  rw [z_xor, hdI] at h1
  rcases Int.lt_or_le x.toInt 0 with q | q
  · exact q
  · exact absurd (by rw [eq_iff_iff]; constructor <;> intro <;> omega) h1
theorem zFM_2 (x : Int32) {d : Nat} (h0 : 0 < d) (hd : d < 2 ^ 31) (h : x - x / nI d * nI d = 0) : x - x / nI d * nI d = zFM x d := by
  rw [fa_eq, z_rem x h0 hd, zFM_toInt x h0 hd]
  have h1 := (fa_eq _ _).mp h
  rw [z_rem x h0 hd] at h1
  have h2 : (0 : Int32).toInt = 0 := rfl
  rw [h2] at h1
  rw [h1]
  exact (Int.emod_eq_zero_of_dvd (Int.dvd_of_tmod_eq_zero h1)).symm
theorem zFM_3 (x : Int32) {d : Nat} (h0 : 0 < d) (hd : d < 2 ^ 31) (hx : ¬ 0 ≤ (x ^^^ nI d)) (h : ¬ x - x / nI d * nI d = 0) : (x - x / nI d * nI d) + nI d = zFM x d := by
  have hs := zFM_s x hd hx
  have hr := z_rem x h0 hd
  have hdI : (nI d).toInt = (d : Int) := nI_toInt hd
  have h1 : ¬ x.toInt.tmod d = 0 := fun q => h (by rw [fa_eq, hr, q]; rfl)
  have h3 : (x.toInt.tmod d).natAbs < d := by rw [Int.natAbs_tmod]; exact Nat.mod_lt _ (by omega)
  have h4 : x.toInt.tmod d = x.toInt % d - d := by
    have := Int.tmod_eq_emod (a := x.toInt) (b := (d : Int))
    rw [if_neg (fun q => by
      rcases q with q | q
      · omega
      · exact h1 (Int.tmod_eq_zero_of_dvd q))] at this
    rw [this]; simp
  have h7 := Int.emod_lt_of_pos x.toInt (show (0 : Int) < d by omega)
  rw [fa_eq, zFM_toInt x h0 hd, fb_addI (by rw [hr, hdI]; omega) (by rw [hr, hdI]; omega), hr, hdI]
  omega
def zFD (x : Int32) (d : Nat) : Int32 := Int32.ofInt (x.toInt / d)
theorem zFD_toInt (x : Int32) {d : Nat} (h0 : 0 < d) : (zFD x d).toInt = x.toInt / d := by
  have hx := fb_rng x
  have h1 := Int.mul_ediv_add_emod x.toInt d
  have h2 := Int.emod_nonneg x.toInt (show (d : Int) ≠ 0 by omega)
  unfold zFD
  rw [Int32.toInt_ofInt]
  have h3 : x.toInt / (d : Int) ≤ x.toInt ∨ x.toInt / (d : Int) ≤ 0 := by
    rcases Int.lt_or_le x.toInt 0 with q | q
    · exact Or.inr (Int.le_of_lt (Int.ediv_neg_of_neg_of_pos q (by omega)))
    · exact Or.inl (Int.ediv_le_self _ q)
  have h4 : -2147483648 ≤ x.toInt / (d : Int) := by
    refine (Int.le_ediv_iff_mul_le (by omega)).mpr ?_
    have : (-2147483648 : Int) * d ≤ -2147483648 * 1 := Int.mul_le_mul_of_nonpos_left (by omega) (by omega)
    omega
  exact fb_bmod h4 (by omega)
theorem zFD_1 (x : Int32) {d : Nat} (h0 : 0 < d) (hd : d < 2 ^ 31) (h : 0 ≤ (x ^^^ nI d)) : x / nI d = zFD x d := by
  rw [fa_eq, z_divI x h0 hd, zFD_toInt x h0]
  have hdI : (nI d).toInt = (d : Int) := nI_toInt hd
  have h1 : ¬ ((x ^^^ nI d) < 0) := Int32.not_lt.mpr h
  rw [z_xor, hdI] at h1
  have h2 : 0 ≤ x.toInt := by
    rcases Int.lt_or_le x.toInt 0 with q | q
    · exact absurd (show (x.toInt < 0) ≠ ((d : Int) < 0) from fun e => by have := e ▸ q; omega) h1
    · exact q
  exact Int.tdiv_eq_ediv_of_nonneg h2
theorem z_mulDiv (x : Int32) {d : Nat} (h0 : 0 < d) (hd : d < 2 ^ 31) : x / nI d * nI d = x ↔ (d : Int) ∣ x.toInt := by
  have hr := z_rem x h0 hd
  constructor
  · intro h
    rw [h] at hr
    have h2 : (x - x).toInt = 0 := by rw [Int32.sub_self]; rfl
    rw [h2] at hr
    exact Int.dvd_of_tmod_eq_zero hr.symm
  · intro h
    have h1 := Int.tmod_eq_zero_of_dvd h
    rw [h1] at hr
    have h3 : x - x / nI d * nI d = 0 := by rw [fa_eq, hr]; rfl
    have h4 := Int32.sub_eq_iff_eq_add.mp h3
    rw [Int32.zero_add] at h4
    exact h4.symm
theorem zFD_2 (x : Int32) {d : Nat} (h0 : 0 < d) (hd : d < 2 ^ 31) (h : x / nI d * nI d = x) : x / nI d = zFD x d := by
  rw [fa_eq, z_divI x h0 hd, zFD_toInt x h0]
  exact Int.tdiv_eq_ediv_of_dvd ((z_mulDiv x h0 hd).mp h)
theorem zFD_3 (x : Int32) {d : Nat} (h0 : 0 < d) (hd : d < 2 ^ 31) (hx : ¬ 0 ≤ (x ^^^ nI d)) (h : ¬ x / nI d * nI d = x) : x / nI d - 1 = zFD x d := by
  have hs := zFM_s x hd hx
  have hr := fb_rng x
  have e := z_divI x h0 hd
  have e2 := zFD_toInt x h0
  have h1 : ¬ (d : Int) ∣ x.toInt := fun q => h ((z_mulDiv x h0 hd).mpr q)
  have h4 : x.toInt.tdiv d = x.toInt / d + 1 := by
    have := Int.tdiv_eq_ediv (a := x.toInt) (b := (d : Int))
    rw [if_neg (fun q => by
      rcases q with q | q
      · omega
      · exact h1 q)] at this
    rw [this, Int.sign_eq_one_of_pos (by omega)]
  have e3 := fb_rng (zFD x d)
  have h5 : (1 : Int32).toInt = 1 := rfl
  rw [fa_eq, e2, fb_subI (by rw [e, h5]; omega) (by rw [e, h5]; omega), e, h5]
  omega
theorem zFM_nI {a d : Nat} (ha : a < 2 ^ 31) : zFM (nI a) d = nI (a % d) := by
  unfold zFM
  rw [nI_toInt ha]
  congr 1
theorem z_lit {a b : Nat} (ha : a < 2 ^ 31) (hb : b < 2 ^ 31) (h : nI a = nI b) : a = b := (nI_eq ha hb).mp h
theorem zSem_fm {p : Int32} (hp : zp p) : zFM ((p + 50) / 100) 12 = nI (zSem p) := by
  obtain ⟨n, hn, rfl⟩ := nI_of2 (n := 12000) (M := 12000) rfl (Int32.not_lt.mpr hp.1) hp.2
  have e1 : nI n + 50 = nI (n + 50) := nI_add n 50
  have e2 : nI (n + 50) / 100 = nI ((n + 50) / 100) := pk_div (d := 100) (by omega) (by decide) (by decide)
  rw [e1, e2, zFM_nI (by omega)]
  unfold zSem
  rw [nI_clamp (by omega)]
theorem zStep_1 {c : C5} {p : Int32} (h : ¬ (0 ≤ p ∧ p ≤ 12000 ∧ p - p / 100 * 100 = 0)) : zStep c p = -1 := if_neg h
theorem zStep_X {c : C5} {p : Int32} (hc : okC c) (h : 0 ≤ p ∧ p ≤ 12000 ∧ p - p / 100 * 100 = 0) : zSt c.2.1 ((p / 100 - nI c.1).toInt % 12).toNat = zStep c p := by
  unfold zStep
  rw [if_pos h]
  obtain ⟨n, hn, rfl⟩ := nI_of2 (n := 12000) (M := 12000) rfl (Int32.not_lt.mpr h.1) h.2.1
  have e2 : nI n / 100 = nI (n / 100) := pk_div (d := 100) (by omega) (by decide) (by decide)
  have h1 := hc.1
  rw [e2, pk_sub_toInt (by omega) (by omega), nI_clamp (by omega)]
  congr 1
  omega
end
section
set_option maxHeartbeats 4000000 in
set_option maxRecDepth 100000 in
theorem c_J9_floorMod_7cf53 (l : Launch) (x : Int32) (d0 : Nat) (h0 : 0 < d0) (hd : d0 < 2 ^ 31) : Met l yJ9_floorMod_7cf53 wsJ9_floorMod_7cf53 ({ frames := 0, cells := 0, slots := 0, locals := 0 }) (va_Pc [.int x, .int (nI d0)] (fun _ => True)) (vp_Si (fun rv => rv = zFM x d0)) 0 0 (fun _ => False) := by
  refine zMet_ofW (cc := cJ9_floorMod_7cf53) (maxL := 3) (ret := (some .int)) (by decide +kernel) rfl ?_
  intro pr e s m ag below meth cd s₁ B hml hv
  obtain ⟨rfl, -⟩ := hv
  have hx := B.exec
  have hb := B.bytes
  have hr := B.returns
  have hts := atoms_spec (ws := wsJ9_floorMod_7cf53) B.pre
  have hown : s.vm.findClass RJ9 = some m.cls := findClass_of_methodNamed B.named
  have hlocks := B.notSynchronized
  have hl := lv_entry ([.int x, .int (nI d0)]) (n := 3) (Nat.le_of_ble_eq_true rfl)
  rw [lg_entry_eq]
  generalize (lg_sl ([.int x, .int (nI d0)]) ++ List.replicate (3 - (lg_sl ([.int x, .int (nI d0)])).length) Slot.unset).toArray = ls at hl ⊢
  have hl : lv_has ls 3 [(0, .int x), (1, .int (nI d0))] := hl
  refine lv_iload_n hx hb dJ9_floorMod_7cf53_0 rfl (lv_at hl 0 rfl) ?_
  refine lv_iload_n hx hb dJ9_floorMod_7cf53_1 rfl (lv_at hl 1 rfl) ?_
  refine lv_irem hx hb dJ9_floorMod_7cf53_2 (nI_ne0 h0 hd) ?_
  refine lv_istore_n (lv' := [(2, .int (x - x / (nI d0) * (nI d0))), (0, .int x), (1, .int (nI d0))]) hx hb dJ9_floorMod_7cf53_3 rfl hl (by decide) rfl (fun ls hl => ?_)
  refine lv_iload_n hx hb dJ9_floorMod_7cf53_4 rfl (lv_at hl 1 rfl) ?_
  refine lv_iload_n hx hb dJ9_floorMod_7cf53_5 rfl (lv_at hl 2 rfl) ?_
  refine lv_ixor hx hb dJ9_floorMod_7cf53_6 ?_
  refine lv_if_ge (tgt := 18) hx hb dJ9_floorMod_7cf53_7 (by decide) (fun c_7 => ?_) (fun c_7 => ?_)
  · refine lv_iload_n hx hb dJ9_floorMod_7cf53_18 rfl (lv_at hl 0 rfl) ?_
    exact W.iret (v := (x - x / (nI d0) * (nI d0))) hx hb hr (fun t ht hW => ⟨_, rfl, zFM_1 x h0 hd c_7, ht⟩) (fun _ h9 => nomatch h9) dJ9_floorMod_7cf53_19
  · refine lv_iload_n hx hb dJ9_floorMod_7cf53_10 rfl (lv_at hl 0 rfl) ?_
    refine lv_if_eq (tgt := 18) hx hb dJ9_floorMod_7cf53_11 (by decide) (fun c_11 => ?_) (fun c_11 => ?_)
    · refine lv_iload_n hx hb dJ9_floorMod_7cf53_18 rfl (lv_at hl 0 rfl) ?_
      exact W.iret (v := (x - x / (nI d0) * (nI d0))) hx hb hr (fun t ht hW => ⟨_, rfl, zFM_2 x h0 hd c_11, ht⟩) (fun _ h9 => nomatch h9) dJ9_floorMod_7cf53_19
    · refine lv_iload_n hx hb dJ9_floorMod_7cf53_14 rfl (lv_at hl 0 rfl) ?_
      refine lv_iload_n hx hb dJ9_floorMod_7cf53_15 rfl (lv_at hl 2 rfl) ?_
      refine lv_iadd hx hb dJ9_floorMod_7cf53_16 ?_
      exact W.iret (v := ((x - x / (nI d0) * (nI d0)) + (nI d0))) hx hb hr (fun t ht hW => ⟨_, rfl, zFM_3 x h0 hd c_7 c_11, ht⟩) (fun _ h9 => nomatch h9) dJ9_floorMod_7cf53_17

set_option maxHeartbeats 4000000 in
set_option maxRecDepth 100000 in
theorem c_J9_floorDiv_7cf53 (l : Launch) (x : Int32) (d0 : Nat) (h0 : 0 < d0) (hd : d0 < 2 ^ 31) : Met l yJ9_floorDiv_7cf53 wsJ9_floorDiv_7cf53 ({ frames := 0, cells := 0, slots := 0, locals := 0 }) (va_Pc [.int x, .int (nI d0)] (fun _ => True)) (vp_Si (fun rv => rv = zFD x d0)) 0 0 (fun _ => False) := by
  refine zMet_ofW (cc := cJ9_floorDiv_7cf53) (maxL := 3) (ret := (some .int)) (by decide +kernel) rfl ?_
  intro pr e s m ag below meth cd s₁ B hml hv
  obtain ⟨rfl, -⟩ := hv
  have hx := B.exec
  have hb := B.bytes
  have hr := B.returns
  have hts := atoms_spec (ws := wsJ9_floorDiv_7cf53) B.pre
  have hown : s.vm.findClass RJ9 = some m.cls := findClass_of_methodNamed B.named
  have hlocks := B.notSynchronized
  have hl := lv_entry ([.int x, .int (nI d0)]) (n := 3) (Nat.le_of_ble_eq_true rfl)
  rw [lg_entry_eq]
  generalize (lg_sl ([.int x, .int (nI d0)]) ++ List.replicate (3 - (lg_sl ([.int x, .int (nI d0)])).length) Slot.unset).toArray = ls at hl ⊢
  have hl : lv_has ls 3 [(0, .int x), (1, .int (nI d0))] := hl
  refine lv_iload_n hx hb dJ9_floorDiv_7cf53_0 rfl (lv_at hl 0 rfl) ?_
  refine lv_iload_n hx hb dJ9_floorDiv_7cf53_1 rfl (lv_at hl 1 rfl) ?_
  refine lv_idiv hx hb dJ9_floorDiv_7cf53_2 (nI_ne0 h0 hd) ?_
  refine lv_istore_n (lv' := [(2, .int (x / (nI d0))), (0, .int x), (1, .int (nI d0))]) hx hb dJ9_floorDiv_7cf53_3 rfl hl (by decide) rfl (fun ls hl => ?_)
  refine lv_iload_n hx hb dJ9_floorDiv_7cf53_4 rfl (lv_at hl 1 rfl) ?_
  refine lv_iload_n hx hb dJ9_floorDiv_7cf53_5 rfl (lv_at hl 2 rfl) ?_
  refine lv_ixor hx hb dJ9_floorDiv_7cf53_6 ?_
  refine lv_if_ge (tgt := 21) hx hb dJ9_floorDiv_7cf53_7 (by decide) (fun c_7 => ?_) (fun c_7 => ?_)
  · refine lv_iload_n hx hb dJ9_floorDiv_7cf53_21 rfl (lv_at hl 0 rfl) ?_
    exact W.iret (v := (x / (nI d0))) hx hb hr (fun t ht hW => ⟨_, rfl, zFD_1 x h0 hd c_7, ht⟩) (fun _ h9 => nomatch h9) dJ9_floorDiv_7cf53_22
  · refine lv_iload_n hx hb dJ9_floorDiv_7cf53_10 rfl (lv_at hl 0 rfl) ?_
    refine lv_iload_n hx hb dJ9_floorDiv_7cf53_11 rfl (lv_at hl 2 rfl) ?_
    refine lv_imul hx hb dJ9_floorDiv_7cf53_12 ?_
    refine lv_iload_n hx hb dJ9_floorDiv_7cf53_13 rfl (lv_at hl 1 rfl) ?_
    refine lv_icmp_eq (tgt := 21) hx hb dJ9_floorDiv_7cf53_14 (by decide) (fun c_14 => ?_) (fun c_14 => ?_)
    · refine lv_iload_n hx hb dJ9_floorDiv_7cf53_21 rfl (lv_at hl 0 rfl) ?_
      exact W.iret (v := (x / (nI d0))) hx hb hr (fun t ht hW => ⟨_, rfl, zFD_2 x h0 hd c_14, ht⟩) (fun _ h9 => nomatch h9) dJ9_floorDiv_7cf53_22
    · refine lv_iload_n hx hb dJ9_floorDiv_7cf53_17 rfl (lv_at hl 0 rfl) ?_
      refine lv_iconst (v := 1) hx hb dJ9_floorDiv_7cf53_18 (by decide) ?_
      refine lv_isub hx hb dJ9_floorDiv_7cf53_19 ?_
      exact W.iret (v := ((x / (nI d0)) - 1)) hx hb hr (fun t ht hW => ⟨_, rfl, zFD_3 x h0 hd c_7 c_14, ht⟩) (fun _ h9 => nomatch h9) dJ9_floorDiv_7cf53_20

set_option maxHeartbeats 4000000 in
set_option maxRecDepth 100000 in
theorem c_X0_isChange (l : Launch) (r0 : Int32) (r1 : Int32) : Met l yX0_isChange wsX0_isChange ({ frames := 0, cells := 0, slots := 0, locals := 0 }) (va_Pc [.int r0, .int r1] (fun _ => True)) (vp_Si (fun rv => rv = zb (zChg r0 r1))) 0 0 (fun _ => False) := by
  refine Met.ofW (cc := cX0_isChange) (maxL := 2) (ret := (some .boolean)) (by decide) rfl ?_
  intro pr e s m ag below meth cd s₁ B hml hv
  obtain ⟨rfl, -⟩ := hv
  have hx := B.exec
  have hb := B.bytes
  have hr := B.returns
  have hts := atoms_spec (ws := wsX0_isChange) B.pre
  have hown : s.vm.findClass RX0 = some m.cls := findClass_of_methodNamed B.named
  have hlocks := B.notSynchronized
  have hl := lv_entry ([.int r0, .int r1]) (n := 2) (Nat.le_of_ble_eq_true rfl)
  rw [lg_entry_eq]
  generalize (lg_sl ([.int r0, .int r1]) ++ List.replicate (2 - (lg_sl ([.int r0, .int r1])).length) Slot.unset).toArray = ls at hl ⊢
  have hl : lv_has ls 2 [(0, .int r0), (1, .int r1)] := hl
  refine lv_iload_n hx hb dX0_isChange_0 rfl (lv_at hl 0 rfl) ?_
  refine lv_iconst (v := (-1)) hx hb dX0_isChange_1 (by decide) ?_
  refine lv_icmp_eq (tgt := 14) hx hb dX0_isChange_2 (by decide) (fun c_2 => ?_) (fun c_2 => ?_)
  · refine lv_iconst (v := 0) hx hb dX0_isChange_14 (by decide) ?_
    exact W.zret (v := 0) hx hb hr rfl (fun t ht hW => ⟨_, rfl, (zb_0 (fun q => q.1 c_2)).symm, ht⟩) (fun _ h9 => nomatch h9) dX0_isChange_15
  · refine lv_iload_n hx hb dX0_isChange_5 rfl (lv_at hl 0 rfl) ?_
    refine lv_iload_n hx hb dX0_isChange_6 rfl (lv_at hl 1 rfl) ?_
    refine lv_icmp_eq (tgt := 14) hx hb dX0_isChange_7 (by decide) (fun c_7 => ?_) (fun c_7 => ?_)
    · refine lv_iconst (v := 0) hx hb dX0_isChange_14 (by decide) ?_
      exact W.zret (v := 0) hx hb hr rfl (fun t ht hW => ⟨_, rfl, (zb_0 (fun q => q.2 c_7)).symm, ht⟩) (fun _ h9 => nomatch h9) dX0_isChange_15
    · refine lv_iconst (v := 1) hx hb dX0_isChange_10 (by decide) ?_
      refine lv_goto (tgt := 15) hx hb dX0_isChange_11 (by decide) ?_
      exact W.zret (v := 1) hx hb hr rfl (fun t ht hW => ⟨_, rfl, (zb_1 ⟨c_2, c_7⟩).symm, ht⟩) (fun _ h9 => nomatch h9) dX0_isChange_15

set_option maxHeartbeats 4000000 in
set_option maxRecDepth 100000 in
theorem c_X0_areInOctaves (l : Launch) (r0 : Int32) (r1 : Int32) : Met l yX0_areInOctaves wsX0_areInOctaves ({ frames := 0, cells := 0, slots := 0, locals := 0 }) (va_Pc [.int r0, .int r1] (fun _ => True)) (vp_Si (fun rv => rv = zb (zOct r0 r1))) 0 0 (fun _ => False) := by
  refine Met.ofW (cc := cX0_areInOctaves) (maxL := 2) (ret := (some .boolean)) (by decide) rfl ?_
  intro pr e s m ag below meth cd s₁ B hml hv
  obtain ⟨rfl, -⟩ := hv
  have hx := B.exec
  have hb := B.bytes
  have hr := B.returns
  have hts := atoms_spec (ws := wsX0_areInOctaves) B.pre
  have hown : s.vm.findClass RX0 = some m.cls := findClass_of_methodNamed B.named
  have hlocks := B.notSynchronized
  have hl := lv_entry ([.int r0, .int r1]) (n := 2) (Nat.le_of_ble_eq_true rfl)
  rw [lg_entry_eq]
  generalize (lg_sl ([.int r0, .int r1]) ++ List.replicate (2 - (lg_sl ([.int r0, .int r1])).length) Slot.unset).toArray = ls at hl ⊢
  have hl : lv_has ls 2 [(0, .int r0), (1, .int r1)] := hl
  refine lv_iload_n hx hb dX0_areInOctaves_0 rfl (lv_at hl 0 rfl) ?_
  refine lv_iconst (v := (-1)) hx hb dX0_areInOctaves_1 (by decide) ?_
  refine lv_icmp_eq (tgt := 24) hx hb dX0_areInOctaves_2 (by decide) (fun c_2 => ?_) (fun c_2 => ?_)
  · refine lv_iconst (v := 0) hx hb dX0_areInOctaves_24 (by decide) ?_
    exact W.zret (v := 0) hx hb hr rfl (fun t ht hW => ⟨_, rfl, (zb_0 (fun q => q.1 c_2)).symm, ht⟩) (fun _ h9 => nomatch h9) dX0_areInOctaves_25
  · refine lv_iload_n hx hb dX0_areInOctaves_5 rfl (lv_at hl 1 rfl) ?_
    refine lv_iconst (v := (-1)) hx hb dX0_areInOctaves_6 (by decide) ?_
    refine lv_icmp_eq (tgt := 24) hx hb dX0_areInOctaves_7 (by decide) (fun c_7 => ?_) (fun c_7 => ?_)
    · refine lv_iconst (v := 0) hx hb dX0_areInOctaves_24 (by decide) ?_
      exact W.zret (v := 0) hx hb hr rfl (fun t ht hW => ⟨_, rfl, (zb_0 (fun q => q.2.1 c_7)).symm, ht⟩) (fun _ h9 => nomatch h9) dX0_areInOctaves_25
    · refine lv_iload_n hx hb dX0_areInOctaves_10 rfl (lv_at hl 0 rfl) ?_
      refine lv_iload_n hx hb dX0_areInOctaves_11 rfl (lv_at hl 1 rfl) ?_
      refine lv_isub hx hb dX0_areInOctaves_12 ?_
      refine lv_sipush (v := 1200) hx hb dX0_areInOctaves_13 (by decide) ?_
      refine lv_irem hx hb dX0_areInOctaves_16 (by decide) ?_
      refine lv_if_ne (tgt := 24) hx hb dX0_areInOctaves_17 (by decide) (fun c_17 => ?_) (fun c_17 => ?_)
      · refine lv_iconst (v := 0) hx hb dX0_areInOctaves_24 (by decide) ?_
        exact W.zret (v := 0) hx hb hr rfl (fun t ht hW => ⟨_, rfl, (zb_0 (fun q => c_17 q.2.2)).symm, ht⟩) (fun _ h9 => nomatch h9) dX0_areInOctaves_25
      · refine lv_iconst (v := 1) hx hb dX0_areInOctaves_20 (by decide) ?_
        refine lv_goto (tgt := 25) hx hb dX0_areInOctaves_21 (by decide) ?_
        exact W.zret (v := 1) hx hb hr rfl (fun t ht hW => ⟨_, rfl, (zb_1 ⟨c_2, c_7, c_17⟩).symm, ht⟩) (fun _ h9 => nomatch h9) dX0_areInOctaves_25

set_option maxHeartbeats 4000000 in
set_option maxRecDepth 100000 in
theorem c_X0_nearestSemitone (l : Launch) (p : Int32) (hp : zp p) : Met l yX0_nearestSemitone wsX0_nearestSemitone ({ frames := 1, cells := 0, slots := 0, locals := 22 }) (va_Pc [.int p] (fun _ => True)) (vp_Si (fun rv => rv = nI (zSem p))) 0 0 (fun _ => False) := by
  refine Met.ofW (cc := cX0_nearestSemitone) (maxL := 1) (ret := (some .int)) (by decide) rfl ?_
  intro pr e s m ag below meth cd s₁ B hml hv
  obtain ⟨rfl, -⟩ := hv
  have hx := B.exec
  have hb := B.bytes
  have hr := B.returns
  have hts := atoms_spec (ws := wsX0_nearestSemitone) B.pre
  have hown : s.vm.findClass RX0 = some m.cls := findClass_of_methodNamed B.named
  have hlocks := B.notSynchronized
  have hl := lv_entry ([.int p]) (n := 1) (Nat.le_of_ble_eq_true rfl)
  rw [lg_entry_eq]
  generalize (lg_sl ([.int p]) ++ List.replicate (1 - (lg_sl ([.int p])).length) Slot.unset).toArray = ls at hl ⊢
  have hl : lv_has ls 1 [(0, .int p)] := hl
  refine lv_iload_n hx hb dX0_nearestSemitone_0 rfl (lv_at hl 0 rfl) ?_
  refine lv_bipush (v := 50) hx hb dX0_nearestSemitone_1 (by decide) ?_
  refine lv_iadd hx hb dX0_nearestSemitone_3 ?_
  refine lv_bipush (v := 100) hx hb dX0_nearestSemitone_4 (by decide) ?_
  refine lv_idiv hx hb dX0_nearestSemitone_6 (by decide) ?_
  refine lv_bipush (v := 12) hx hb dX0_nearestSemitone_7 (by decide) ?_
  refine vp_callSi ((va_runS (As := [.int ((p + 50) / 100), .int 12]) (rest := []) ⟨hx, hb, hml, hown, hts⟩ (c_J9_floorMod_7cf53 l ((p + 50) / 100) 12 (by decide) (by decide)) (va_cwS 2 hts gX0_nearestSemitone_J9_floorMod_7cf53 rfl rfl rfl (by decide +kernel) ⟨Nat.le_of_ble_eq_true rfl, Nat.le_of_ble_eq_true rfl⟩) ⟨zT.blind, zT.call⟩ rfl rfl hl.1 rfl (lv_room (Nat.le_of_ble_eq_true rfl)) dX0_nearestSemitone_9 ⟨Nat.zero_le _, Nat.zero_le _⟩).run) (fun r_9 h_9 => ?_)
  have h_9 : r_9 = (zFM ((p + 50) / 100) 12) := h_9
  subst h_9
  rw [show ((zFM ((p + 50) / 100) 12) : Int32) = (nI (zSem p)) from zSem_fm hp]
  exact W.iret (v := (nI (zSem p))) hx hb hr (fun t ht hW => ⟨_, rfl, rfl, ht⟩) (fun _ h9 => nomatch h9) dX0_nearestSemitone_12

set_option maxHeartbeats 4000000 in
set_option maxRecDepth 100000 in
theorem c_X0_stepAbove (l : Launch) (N0 : Nat) (sm : Int32) (md : Nat) (hm : md < 8) : Met l yX0_stepAbove wsX0_stepAbove ({ frames := 1, cells := 0, slots := 0, locals := 22 }) (va_Pc [.int sm, .int (nI md)] (zPe N0)) (vp_Si (fun rv => rv = zSt md (sm.toInt % 12).toNat)) 0 0 (fun _ => False) := by
  refine Met.ofW (cc := cX0_stepAbove) (maxL := 6) (ret := (some .int)) (by decide) rfl ?_
  intro pr e s m ag below meth cd s₁ B hml hv
  obtain ⟨rfl, hN, hE⟩ := hv
  have hx := B.exec
  have hb := B.bytes
  have hr := B.returns
  have hts := atoms_spec (ws := wsX0_stepAbove) B.pre
  have hown : s.vm.findClass RX0 = some m.cls := findClass_of_methodNamed B.named
  have hlocks := B.notSynchronized
  have hS : va_S (zA N0) s.heap s.heap [] := va_S.rf
  obtain ⟨tS, hZ, hT⟩ := id hE.1
  have hl := lv_entry ([.int sm, .int (nI md)]) (n := 6) (Nat.le_of_ble_eq_true rfl)
  rw [lg_entry_eq]
  generalize (lg_sl ([.int sm, .int (nI md)]) ++ List.replicate (6 - (lg_sl ([.int sm, .int (nI md)])).length) Slot.unset).toArray = ls at hl ⊢
  have hl : lv_has ls 6 [(0, .int sm), (1, .int (nI md))] := hl
  have hk : (sm.toInt % 12).toNat < 12 := by
    have h1 := Int.emod_nonneg sm.toInt (show (12 : Int) ≠ 0 by decide)
    have h2 := Int.emod_lt_of_pos sm.toInt (show (0 : Int) < 12 by decide)
    omega
  have loop : ∀ (n : Nat) (i : Nat), i ≤ 7 → 8 ≤ i + n → (∀ j, j < i → ¬ zT md j = (sm.toInt % 12).toNat) → md < 7 → ∀ (ls : Array Slot), lv_has ls 6 [(4, .int (nI i)), (3, .int (nI (zST (md % 7)))), (2, .int (zFM sm 12)), (0, .int sm), (1, .int (nI md))] → W pr l e (headSpec wsX0_stepAbove ({ frames := 1, cells := 0, slots := 0, locals := 22 })).room s m ([.int sm, .int (nI md)] : List Value).toArray below meth cd s.heap [] 0 0 (MQ below (vp_Si (fun rv => rv = zSt md (sm.toInt % 12).toNat)) ([.int sm, .int (nI md)] : List Value).toArray s 0 0 (fun _ => False)) (F0 m 31 ls []) := by
    intro n
    induction n with
    | zero =>
      intro i hi hn hv hm7
      omega
    | succ n ih =>
      intro i hi hn hv hm7 ls hl
      refine lv_iload hx hb dX0_stepAbove_31 (lv_at hl 0 rfl) ?_
      refine va_gets (C := "TunedWrens") (n := "STEPS") (d := "[I") hx hb hZ hS hown (hts (.fieldLink RX0 135 "TunedWrens" "STEPS" "[I") (by decide +kernel)) (fun _ h9 => h9) dX0_stepAbove_33 ?_
      refine va_tlen hx hb hT hS (v := 7) rfl dX0_stepAbove_36 ?_
      refine lv_icmp_ge (tgt := 79) hx hb dX0_stepAbove_37 (by decide) (fun c_37 => ?_) (fun c_37 => ?_)
      · have hi7 : i = 7 := by have := (nI_leI (a := 7) (by decide) (by omega)).mp c_37; omega
        refine lv_iconst (v := (-1)) hx hb dX0_stepAbove_79 (by decide) ?_
        exact W.iret (v := (-1)) hx hb hr (fun t ht hW => ⟨_, rfl, (zSt_out md hm7 _ hk (fun j hj => hv j (by omega))).symm, ht⟩) (fun _ h9 => nomatch h9) dX0_stepAbove_80
      · have hi7 : i < 7 := by
          rcases Nat.lt_or_ge i 7 with q | q
          · exact q
          · exact absurd ((nI_leI (a := 7) (by decide) (by omega)).mpr q) c_37
        refine va_gets (C := "TunedWrens") (n := "STEPS") (d := "[I") hx hb hZ hS hown (hts (.fieldLink RX0 135 "TunedWrens" "STEPS" "[I") (by decide +kernel)) (fun _ h9 => h9) dX0_stepAbove_40 ?_
        refine lv_iload_n hx hb dX0_stepAbove_43 rfl (lv_at hl 4 rfl) ?_
        refine lv_iload hx hb dX0_stepAbove_44 (lv_at hl 0 rfl) ?_
        refine lv_iadd hx hb dX0_stepAbove_46 ?_
        rw [show (((nI md) + (nI i)) : Int32) = (nI (md + i)) from nI_add md i]
        refine va_gets (C := "TunedWrens") (n := "STEPS") (d := "[I") hx hb hZ hS hown (hts (.fieldLink RX0 135 "TunedWrens" "STEPS" "[I") (by decide +kernel)) (fun _ h9 => h9) dX0_stepAbove_47 ?_
        refine va_tlen hx hb hT hS (v := 7) rfl dX0_stepAbove_50 ?_
        refine vp_callSi ((va_runS (As := [.int (nI (md + i)), .int 7]) (rest := [.ref tS]) ⟨hx, hb, hml, hown, hts⟩ (c_J9_floorMod_7cf53 l (nI (md + i)) 7 (by decide) (by decide)) (va_cwS 2 hts gX0_stepAbove_J9_floorMod_7cf53 rfl rfl rfl (by decide +kernel) ⟨Nat.le_of_ble_eq_true rfl, Nat.le_of_ble_eq_true rfl⟩) ⟨zT.blind, zT.call⟩ rfl rfl hl.1 rfl (lv_room (Nat.le_of_ble_eq_true rfl)) dX0_stepAbove_51 ⟨Nat.zero_le _, Nat.zero_le _⟩).run) (fun r_51 h_51 => ?_)
        have h_51 : r_51 = (zFM (nI (md + i)) 7) := h_51
        subst h_51
        rw [show ((zFM (nI (md + i)) 7) : Int32) = (nI ((md + i) % 7)) from zFM_nI (by omega)]
        refine va_ti hx hb hT hS (vp_in_nI (Nat.mod_lt _ (by decide)) (by decide)) (v := .int (nI (zST ((md + i) % 7)))) (by rw [nI_clamp (by have := Nat.mod_lt (md + i) (show 7 > 0 by decide); omega)]) dX0_stepAbove_54 ?_
        refine lv_istore (lv' := [(5, .int (nI (zST ((md + i) % 7)))), (4, .int (nI i)), (3, .int (nI (zST (md % 7)))), (2, .int (zFM sm 12)), (0, .int sm), (1, .int (nI md))]) hx hb dX0_stepAbove_55 hl (by decide) rfl (fun ls hl => ?_)
        refine lv_iload hx hb dX0_stepAbove_57 (lv_at hl 0 rfl) ?_
        refine lv_iload_n hx hb dX0_stepAbove_59 rfl (lv_at hl 2 rfl) ?_
        refine lv_isub hx hb dX0_stepAbove_60 ?_
        refine lv_bipush (v := 12) hx hb dX0_stepAbove_61 (by decide) ?_
        refine vp_callSi ((va_runS (As := [.int ((nI (zST ((md + i) % 7))) - (nI (zST (md % 7)))), .int 12]) (rest := []) ⟨hx, hb, hml, hown, hts⟩ (c_J9_floorMod_7cf53 l ((nI (zST ((md + i) % 7))) - (nI (zST (md % 7)))) 12 (by decide) (by decide)) (va_cwS 2 hts gX0_stepAbove_J9_floorMod_7cf53 rfl rfl rfl (by decide +kernel) ⟨Nat.le_of_ble_eq_true rfl, Nat.le_of_ble_eq_true rfl⟩) ⟨zT.blind, zT.call⟩ rfl rfl hl.1 rfl (lv_room (Nat.le_of_ble_eq_true rfl)) dX0_stepAbove_63 ⟨Nat.zero_le _, Nat.zero_le _⟩).run) (fun r_63 h_63 => ?_)
        have h_63 : r_63 = (zFM ((nI (zST ((md + i) % 7))) - (nI (zST (md % 7)))) 12) := h_63
        subst h_63
        rw [show ((zFM ((nI (zST ((md + i) % 7))) - (nI (zST (md % 7)))) 12) : Int32) = (nI (zT md i)) from zST_d md hm7 i hi7]
        refine lv_iload_n hx hb dX0_stepAbove_66 rfl (lv_at hl 3 rfl) ?_
        refine lv_icmp_ne (tgt := 73) hx hb dX0_stepAbove_67 (by decide) (fun c_67 => ?_) (fun c_67 => ?_)
        · refine lv_iinc (v := (nI (i + 1))) (lv' := [(4, .int (nI (i + 1))), (5, .int (nI (zST ((md + i) % 7)))), (3, .int (nI (zST (md % 7)))), (2, .int (zFM sm 12)), (0, .int sm), (1, .int (nI md))]) hx hb dX0_stepAbove_73 hl (k := 1) rfl (z_inc i 1) (by decide) rfl (fun ls hl => ?_)
          refine lv_goto (tgt := 31) hx hb dX0_stepAbove_76 (by decide) ?_
          exact ih (i + 1) (by omega) (by omega) (fun j hj => (Nat.lt_or_ge j i).elim (fun q => hv j q) (fun q => by rw [show j = i by omega]; exact fun e => c_67 (by rw [e]; rfl))) hm7 ls (lv_sub hl [0, 2, 3, 4, 5] rfl)
        · have hk2 : zT md i = (sm.toInt % 12).toNat := z_lit (by have := zT_lt md hm7 i hi7; omega) (by omega) c_67
          refine lv_iload hx hb dX0_stepAbove_70 (lv_at hl 1 rfl) ?_
          exact W.iret (v := (nI i)) hx hb hr (fun t ht hW => ⟨_, rfl, by rw [← hk2]; exact (zSt_in md hm7 i hi7).symm, ht⟩) (fun _ h9 => nomatch h9) dX0_stepAbove_72
  refine lv_iload_n hx hb dX0_stepAbove_0 rfl (lv_at hl 0 rfl) ?_
  refine lv_bipush (v := 12) hx hb dX0_stepAbove_1 (by decide) ?_
  refine vp_callSi ((va_runS (As := [.int sm, .int 12]) (rest := []) ⟨hx, hb, hml, hown, hts⟩ (c_J9_floorMod_7cf53 l sm 12 (by decide) (by decide)) (va_cwS 2 hts gX0_stepAbove_J9_floorMod_7cf53 rfl rfl rfl (by decide +kernel) ⟨Nat.le_of_ble_eq_true rfl, Nat.le_of_ble_eq_true rfl⟩) ⟨zT.blind, zT.call⟩ rfl rfl hl.1 rfl (lv_room (Nat.le_of_ble_eq_true rfl)) dX0_stepAbove_3 ⟨Nat.zero_le _, Nat.zero_le _⟩).run) (fun r_3 h_3 => ?_)
  have h_3 : r_3 = (zFM sm 12) := h_3
  subst h_3
  refine lv_istore_n (lv' := [(2, .int (zFM sm 12)), (0, .int sm), (1, .int (nI md))]) hx hb dX0_stepAbove_6 rfl hl (by decide) rfl (fun ls hl => ?_)
  refine lv_iload_n hx hb dX0_stepAbove_7 rfl (lv_at hl 2 rfl) ?_
  refine lv_bipush (v := 7) hx hb dX0_stepAbove_8 (by decide) ?_
  refine lv_icmp_ne (tgt := 15) hx hb dX0_stepAbove_10 (by decide) (fun c_10 => ?_) (fun c_10 => ?_)
  · have hm7 : md < 7 := by
      rcases Nat.lt_or_ge md 7 with q | q
      · exact q
      · exact absurd (by rw [show md = 7 by omega]; rfl) c_10
    refine va_gets (C := "TunedWrens") (n := "STEPS") (d := "[I") hx hb hZ hS hown (hts (.fieldLink RX0 135 "TunedWrens" "STEPS" "[I") (by decide +kernel)) (fun _ h9 => h9) dX0_stepAbove_15 ?_
    refine lv_iload_n hx hb dX0_stepAbove_18 rfl (lv_at hl 2 rfl) ?_
    refine va_gets (C := "TunedWrens") (n := "STEPS") (d := "[I") hx hb hZ hS hown (hts (.fieldLink RX0 135 "TunedWrens" "STEPS" "[I") (by decide +kernel)) (fun _ h9 => h9) dX0_stepAbove_19 ?_
    refine va_tlen hx hb hT hS (v := 7) rfl dX0_stepAbove_22 ?_
    refine vp_callSi ((va_runS (As := [.int (nI md), .int 7]) (rest := [.ref tS]) ⟨hx, hb, hml, hown, hts⟩ (c_J9_floorMod_7cf53 l (nI md) 7 (by decide) (by decide)) (va_cwS 2 hts gX0_stepAbove_J9_floorMod_7cf53 rfl rfl rfl (by decide +kernel) ⟨Nat.le_of_ble_eq_true rfl, Nat.le_of_ble_eq_true rfl⟩) ⟨zT.blind, zT.call⟩ rfl rfl hl.1 rfl (lv_room (Nat.le_of_ble_eq_true rfl)) dX0_stepAbove_23 ⟨Nat.zero_le _, Nat.zero_le _⟩).run) (fun r_23 h_23 => ?_)
    have h_23 : r_23 = (zFM (nI md) 7) := h_23
    subst h_23
    rw [show ((zFM (nI md) 7) : Int32) = (nI (md % 7)) from zFM_nI (by omega)]
    refine va_ti hx hb hT hS (vp_in_nI (Nat.mod_lt _ (by decide)) (by decide)) (v := .int (nI (zST (md % 7)))) (by rw [nI_clamp (by have := Nat.mod_lt md (show 7 > 0 by decide); omega)]) dX0_stepAbove_26 ?_
    refine lv_istore_n (lv' := [(3, .int (nI (zST (md % 7)))), (2, .int (zFM sm 12)), (0, .int sm), (1, .int (nI md))]) hx hb dX0_stepAbove_27 rfl hl (by decide) rfl (fun ls hl => ?_)
    refine lv_iconst (v := 0) hx hb dX0_stepAbove_28 (by decide) ?_
    refine lv_istore (lv' := [(4, .int 0), (3, .int (nI (zST (md % 7)))), (2, .int (zFM sm 12)), (0, .int sm), (1, .int (nI md))]) hx hb dX0_stepAbove_29 hl (by decide) rfl (fun ls hl => ?_)
    exact loop 8 0 (by decide) (by decide) (fun j hj => absurd hj (Nat.not_lt_zero j)) hm7 ls (lv_sub hl [0, 1, 2, 3, 4] rfl)
  · have hm7 : md = 7 := z_lit (by omega) (by decide) c_10
    refine lv_iload_n hx hb dX0_stepAbove_13 rfl (lv_at hl 0 rfl) ?_
    exact W.iret (v := (zFM sm 12)) hx hb hr (fun t ht hW => ⟨_, rfl, by rw [hm7]; exact (zSt_7 _ hk).symm, ht⟩) (fun _ h9 => nomatch h9) dX0_stepAbove_14

set_option maxHeartbeats 4000000 in
set_option maxRecDepth 100000 in
theorem c_X0_stepAt (l : Launch) (D : va_G) (N0 : Nat) (cA cL : ClassId) (E : va_W) (h : Nat) (d : Nat → Nat) (z : S7) (c : C5) (p : Int32) (hc : okC c) : Met l yX0_stepAt wsX0_stepAt ({ frames := 2, cells := 0, slots := 0, locals := 47 }) (va_Pc [.ref h, .int p] (zPre D N0 cA cL (wX h d cA z c ++ E))) (vp_Si (fun rv => rv = zStep c p)) 0 0 (fun _ => False) := by
  refine Met.ofW (cc := cX0_stepAt) (maxL := 2) (ret := (some .int)) (by decide) rfl ?_
  intro pr e s m ag below meth cd s₁ B hml hv
  obtain ⟨rfl, hN, hP, hD, hK, hE⟩ := hv
  have hx := B.exec
  have hb := B.bytes
  have hr := B.returns
  have hts := atoms_spec (ws := wsX0_stepAt) B.pre
  have hown : s.vm.findClass RX0 = some m.cls := findClass_of_methodNamed B.named
  have hlocks := B.notSynchronized
  have hS : va_S (zA N0) s.heap s.heap [] := va_S.rf
  have hiw : ∀ w ∈ u_ws RX0 TX0 12, w ∈ wsX0_stepAt := by decide +kernel
  have hl := lv_entry ([.ref h, .int p]) (n := 2) (Nat.le_of_ble_eq_true rfl)
  rw [lg_entry_eq]
  generalize (lg_sl ([.ref h, .int p]) ++ List.replicate (2 - (lg_sl ([.ref h, .int p])).length) Slot.unset).toArray = ls at hl ⊢
  have hl : lv_has ls 2 [(0, .ref h), (1, .int p)] := hl
  refine lv_iload_n hx hb dX0_stepAt_0 rfl (lv_at hl 1 rfl) ?_
  refine lv_if_lt (tgt := 18) hx hb dX0_stepAt_1 (by decide) (fun c_1 => ?_) (fun c_1 => ?_)
  · refine lv_iconst (v := (-1)) hx hb dX0_stepAt_18 (by decide) ?_
    exact W.iret (v := (-1)) hx hb hr (fun t ht hW => ⟨_, rfl, (zStep_1 (fun q => Int32.not_le.mpr c_1 q.1)).symm, ht⟩) (fun _ h9 => nomatch h9) dX0_stepAt_19
  · refine lv_iload_n hx hb dX0_stepAt_4 rfl (lv_at hl 1 rfl) ?_
    refine lv_sipush (v := 12000) hx hb dX0_stepAt_5 (by decide) ?_
    refine lv_icmp_gt (tgt := 18) hx hb dX0_stepAt_8 (by decide) (fun c_8 => ?_) (fun c_8 => ?_)
    · refine lv_iconst (v := (-1)) hx hb dX0_stepAt_18 (by decide) ?_
      exact W.iret (v := (-1)) hx hb hr (fun t ht hW => ⟨_, rfl, (zStep_1 (fun q => Int32.not_le.mpr c_8 q.2.1)).symm, ht⟩) (fun _ h9 => nomatch h9) dX0_stepAt_19
    · refine lv_iload_n hx hb dX0_stepAt_11 rfl (lv_at hl 1 rfl) ?_
      refine lv_bipush (v := 100) hx hb dX0_stepAt_12 (by decide) ?_
      refine lv_irem hx hb dX0_stepAt_14 (by decide) ?_
      refine lv_if_eq (tgt := 20) hx hb dX0_stepAt_15 (by decide) (fun c_15 => ?_) (fun c_15 => ?_)
      · refine lv_iload_n hx hb dX0_stepAt_20 rfl (lv_at hl 1 rfl) ?_
        refine lv_bipush (v := 100) hx hb dX0_stepAt_21 (by decide) ?_
        refine lv_idiv hx hb dX0_stepAt_23 (by decide) ?_
        refine lv_aload_n hx hb dX0_stepAt_24 rfl (lv_at hl 0 rfl) ?_
        refine va_get (D := D) (ci := 0) (v := .int (nI c.1)) (C := RX0) (T := TX0) (N := 12) hx hb hts hiw hown hK hP 0 rfl rfl 7 (by decide) (hts (.fieldLink RX0 31 "TunedWrens" "scaleKey" "I") (by decide +kernel)) (fun _ h9 => h9) rfl dX0_stepAt_25 ?_
        refine lv_isub hx hb dX0_stepAt_28 ?_
        refine lv_aload_n hx hb dX0_stepAt_29 rfl (lv_at hl 0 rfl) ?_
        refine va_get (D := D) (ci := 0) (v := .int (nI c.2.1)) (C := RX0) (T := TX0) (N := 12) hx hb hts hiw hown hK hP 0 rfl rfl 8 (by decide) (hts (.fieldLink RX0 35 "TunedWrens" "scaleMode" "I") (by decide +kernel)) (fun _ h9 => h9) rfl dX0_stepAt_30 ?_
        refine vp_callSi ((va_runS (As := [.int ((p / 100) - (nI c.1)), .int (nI c.2.1)]) (rest := []) ⟨hx, hb, hml, hown, hts⟩ (c_X0_stepAbove l N0 ((p / 100) - (nI c.1)) c.2.1 hc.2.1) (va_cwS 2 hts gX0_stepAt_X0_stepAbove rfl rfl rfl (by decide +kernel) ⟨Nat.le_of_ble_eq_true rfl, Nat.le_of_ble_eq_true rfl⟩) ⟨zPe.blind, zPe.call hN hE hS⟩ rfl rfl hl.1 rfl (lv_room (Nat.le_of_ble_eq_true rfl)) dX0_stepAt_33 ⟨Nat.zero_le _, Nat.zero_le _⟩).run) (fun r_33 h_33 => ?_)
        have h_33 : r_33 = (zSt c.2.1 (((p / 100) - (nI c.1)).toInt % 12).toNat) := h_33
        subst h_33
        exact W.iret (v := (zSt c.2.1 (((p / 100) - (nI c.1)).toInt % 12).toNat)) hx hb hr (fun t ht hW => ⟨_, rfl, zStep_X hc ⟨Int32.not_lt.mp c_1, Int32.not_lt.mp c_8, c_15⟩, ht⟩) (fun _ h9 => nomatch h9) dX0_stepAt_36
      · refine lv_iconst (v := (-1)) hx hb dX0_stepAt_18 (by decide) ?_
        exact W.iret (v := (-1)) hx hb hr (fun t ht hW => ⟨_, rfl, (zStep_1 (fun q => c_15 q.2.2)).symm, ht⟩) (fun _ h9 => nomatch h9) dX0_stepAt_19

set_option maxHeartbeats 4000000 in
set_option maxRecDepth 100000 in
theorem c_X0_isRung (l : Launch) (D : va_G) (N0 : Nat) (cA cL : ClassId) (E : va_W) (h : Nat) (d : Nat → Nat) (z : S7) (c : C5) (p : Int32) (hc : okC c) : Met l yX0_isRung wsX0_isRung ({ frames := 3, cells := 0, slots := 0, locals := 68 }) (va_Pc [.ref h, .int p] (zPre D N0 cA cL (wX h d cA z c ++ E))) (vp_Si (fun rv => rv = zb (¬ zStep c p = -1))) 0 0 (fun _ => False) := by
  refine Met.ofW (cc := cX0_isRung) (maxL := 2) (ret := (some .boolean)) (by decide) rfl ?_
  intro pr e s m ag below meth cd s₁ B hml hv
  obtain ⟨rfl, hN, hP, hD, hK, hE⟩ := hv
  have hx := B.exec
  have hb := B.bytes
  have hr := B.returns
  have hts := atoms_spec (ws := wsX0_isRung) B.pre
  have hown : s.vm.findClass RX0 = some m.cls := findClass_of_methodNamed B.named
  have hlocks := B.notSynchronized
  have hS : va_S (zA N0) s.heap s.heap [] := va_S.rf
  have hl := lv_entry ([.ref h, .int p]) (n := 2) (Nat.le_of_ble_eq_true rfl)
  rw [lg_entry_eq]
  generalize (lg_sl ([.ref h, .int p]) ++ List.replicate (2 - (lg_sl ([.ref h, .int p])).length) Slot.unset).toArray = ls at hl ⊢
  have hl : lv_has ls 2 [(0, .ref h), (1, .int p)] := hl
  refine lv_aload_n hx hb dX0_isRung_0 rfl (lv_at hl 0 rfl) ?_
  refine lv_iload_n hx hb dX0_isRung_1 rfl (lv_at hl 1 rfl) ?_
  refine vp_callSi ((va_runV (As := [.int p]) (rest := []) ⟨hx, hb, hml, hown, hts⟩ (c_X0_stepAt l D N0 cA cL E h d z c p hc) (cwV 1 hts gX0_isRung_X0_stepAt rfl rfl rfl (by decide +kernel) ⟨Nat.le_of_ble_eq_true rfl, Nat.le_of_ble_eq_true rfl⟩) ⟨zPre.blind, va_recv hK hP (ci := 0) (q0 := 0) rfl rfl, zPre.call hN hP hD hK hE hS⟩ rfl rfl hl.1 rfl (lv_room (Nat.le_of_ble_eq_true rfl)) dX0_isRung_2 ⟨Nat.zero_le _, Nat.zero_le _⟩).run) (fun r_2 h_2 => ?_)
  have h_2 : r_2 = (zStep c p) := h_2
  subst h_2
  refine lv_iconst (v := (-1)) hx hb dX0_isRung_5 (by decide) ?_
  refine lv_icmp_eq (tgt := 13) hx hb dX0_isRung_6 (by decide) (fun c_6 => ?_) (fun c_6 => ?_)
  · refine lv_iconst (v := 0) hx hb dX0_isRung_13 (by decide) ?_
    exact W.zret (v := 0) hx hb hr rfl (fun t ht hW => ⟨_, rfl, (zb_0 (fun q => q c_6)).symm, ht⟩) (fun _ h9 => nomatch h9) dX0_isRung_14
  · refine lv_iconst (v := 1) hx hb dX0_isRung_9 (by decide) ?_
    refine lv_goto (tgt := 14) hx hb dX0_isRung_10 (by decide) ?_
    exact W.zret (v := 1) hx hb hr rfl (fun t ht hW => ⟨_, rfl, (zb_1 c_6).symm, ht⟩) (fun _ h9 => nomatch h9) dX0_isRung_14
end
section
/-! the nearest rung: by a scan of all hundreds; by the one below and the one above -/
def zD (a j : Nat) : Nat := if 100 * j < a then a - 100 * j else 100 * j - a
theorem zFar_D {a j : Nat} (ha : a ≤ 12000) (hj : j ≤ 120) : zFar (nI (100 * j)) (nI a) = nI (zD a j) := by
  unfold zFar zD
  by_cases h : 100 * j < a
  · rw [if_pos (nI_lt h (by omega)), if_pos h, pk_sub (by omega)]
  · rw [if_neg (nI_nlt (by omega) (by omega)), if_neg h, pk_sub (by omega)]
theorem zD_lt {a j : Nat} (ha : a ≤ 12000) (hj : j ≤ 120) : zD a j < 2 ^ 31 := by
  unfold zD
  split <;> omega
theorem zNearN_char {c : C5} (hc : okC c) {a : Nat} (ha : a ≤ 12000) : ∀ n, n ≤ 121 →
    (zNearN c (nI a) n = -1 ∧ ∀ i, i < n → zStep c (nI (100 * i)) = -1) ∨
    ∃ j, j < n ∧ zNearN c (nI a) n = nI (100 * j) ∧ ¬ zStep c (nI (100 * j)) = -1 ∧ ∀ i, i < n → ¬ zStep c (nI (100 * i)) = -1 → zD a j < zD a i ∨ (zD a j = zD a i ∧ j ≤ i) := by
  intro n
  induction n with
  | zero => exact fun _ => Or.inl ⟨rfl, fun i hi => absurd hi (Nat.not_lt_zero i)⟩
  | succ n ih =>
    intro hn
    have hr := zStep_neg hc (nI (100 * n))
    by_cases hp : zStep c (nI (100 * n)) = -1
    · have e : zNearN c (nI a) (n + 1) = zNearN c (nI a) n := by
        show (if _ then _ else _) = _
        rw [if_neg (fun q => q.1 (hr.mpr hp))]
      rw [e]
      rcases ih (by omega) with ⟨h1, h2⟩ | ⟨j, h1, h2, h3, h4⟩
      · refine Or.inl ⟨h1, fun i hi => ?_⟩
        rcases Nat.lt_or_ge i n with q | q
        · exact h2 i q
        · rw [show i = n by omega]; exact hp
      · refine Or.inr ⟨j, by omega, h2, h3, fun i hi hpi => ?_⟩
        rcases Nat.lt_or_ge i n with q | q
        · exact h4 i q hpi
        · exact absurd (by rw [show i = n by omega]; exact hp) hpi
    · have hp2 : ¬ zStep c (nI (100 * n)) < 0 := fun q => hp (hr.mp q)
      rcases ih (by omega) with ⟨h1, h2⟩ | ⟨j, h1, h2, h3, h4⟩
      · refine Or.inr ⟨n, by omega, ?_, hp, fun i hi hpi => ?_⟩
        · show (if _ then _ else _) = _
          rw [if_pos ⟨hp2, Or.inl (by rw [h1]; decide)⟩]
        · rcases Nat.lt_or_ge i n with q | q
          · exact absurd (h2 i q) hpi
          · rw [show i = n by omega]; exact Or.inr ⟨rfl, Nat.le_refl _⟩
      · have hj0 : ¬ nI (100 * j) < 0 := nI_pos (by omega)
        by_cases hd : zD a n < zD a j
        · refine Or.inr ⟨n, by omega, ?_, hp, fun i hi hpi => ?_⟩
          · show (if _ then _ else _) = _
            rw [if_pos ⟨hp2, Or.inr (by rw [h2, zFar_D ha (by omega), zFar_D ha (by omega)]; exact nI_lt hd (zD_lt ha (by omega)))⟩]
          · rcases Nat.lt_or_ge i n with q | q
            · have := h4 i q hpi
              omega
            · rw [show i = n by omega]; exact Or.inr ⟨rfl, Nat.le_refl _⟩
        · refine Or.inr ⟨j, by omega, ?_, h3, fun i hi hpi => ?_⟩
          · show (if _ then _ else _) = _
            rw [if_neg, h2]
            rintro ⟨-, q | q⟩
            · rw [h2] at q; exact hj0 q
            · rw [h2, zFar_D ha (by omega), zFar_D ha (by omega)] at q
              exact nI_nlt (by omega) (zD_lt ha (by omega)) q
          · rcases Nat.lt_or_ge i n with q | q
            · exact h4 i q hpi
            · have : i = n := by omega
              subst this
              omega
theorem zNear_is {c : C5} (hc : okC c) {a j : Nat} (ha : a ≤ 12000) (hj : j ≤ 120) (hp : ¬ zStep c (nI (100 * j)) = -1) (hb : ∀ i, i ≤ 120 → ¬ zStep c (nI (100 * i)) = -1 → zD a j < zD a i ∨ (zD a j = zD a i ∧ j ≤ i)) : zNear c (nI a) = nI (100 * j) := by
  rcases zNearN_char hc ha 121 (Nat.le_refl _) with ⟨h1, h2⟩ | ⟨j2, h1, h2, h3, h4⟩
  · exact absurd (h2 j (by omega)) hp
  · have q1 := h4 j (by omega) hp
    have q2 := hb j2 (by omega) h3
    show zNearN c (nI a) 121 = _
    rw [h2, show j2 = j by omega]
theorem zNear_no {c : C5} (hc : okC c) {a : Nat} (ha : a ≤ 12000) (h : ∀ i, i ≤ 120 → zStep c (nI (100 * i)) = -1) : zNear c (nI a) = -1 := by
  rcases zNearN_char hc ha 121 (Nat.le_refl _) with ⟨h1, h2⟩ | ⟨j2, h1, h2, h3, h4⟩
  · exact h1
  · exact absurd (h j2 (by omega)) h3
def zBelN (c : C5) : Nat → Int32
  | 0 => -1
  | k + 1 => if zStep c (nI (100 * k)) = -1 then zBelN c k else nI (100 * k)
def zBel (c : C5) (p : Int32) : Int32 := zBelN c (p.toNatClampNeg / 100 + 1)
def zAboN (c : C5) : Nat → Nat → Int32
  | 0, _ => -1
  | f + 1, j => if zStep c (nI (100 * j)) = -1 then zAboN c f (j + 1) else nI (100 * j)
def zAbo (c : C5) (p : Int32) : Int32 := zAboN c (120 - p.toNatClampNeg / 100) (p.toNatClampNeg / 100 + 1)
theorem zBelN_char (c : C5) : ∀ k, (zBelN c k = -1 ∧ ∀ i, i < k → zStep c (nI (100 * i)) = -1) ∨ ∃ j, j < k ∧ zBelN c k = nI (100 * j) ∧ ¬ zStep c (nI (100 * j)) = -1 ∧ ∀ i, j < i → i < k → zStep c (nI (100 * i)) = -1 := by
  intro k
  induction k with
  | zero => exact Or.inl ⟨rfl, fun i hi => absurd hi (Nat.not_lt_zero i)⟩
  | succ k ih =>
    by_cases hp : zStep c (nI (100 * k)) = -1
    · have e : zBelN c (k + 1) = zBelN c k := if_pos hp
      rw [e]
      rcases ih with ⟨h1, h2⟩ | ⟨j, h1, h2, h3, h4⟩
      · refine Or.inl ⟨h1, fun i hi => ?_⟩
        rcases Nat.lt_or_ge i k with q | q
        · exact h2 i q
        · rw [show i = k by omega]; exact hp
      · refine Or.inr ⟨j, by omega, h2, h3, fun i hi hi2 => ?_⟩
        rcases Nat.lt_or_ge i k with q | q
        · exact h4 i hi q
        · rw [show i = k by omega]; exact hp
    · exact Or.inr ⟨k, by omega, if_neg hp, hp, fun i hi hi2 => absurd hi (by omega)⟩
theorem zAboN_char (c : C5) : ∀ f j, (zAboN c f j = -1 ∧ ∀ i, j ≤ i → i < j + f → zStep c (nI (100 * i)) = -1) ∨ ∃ i0, j ≤ i0 ∧ i0 < j + f ∧ zAboN c f j = nI (100 * i0) ∧ ¬ zStep c (nI (100 * i0)) = -1 ∧ ∀ i, j ≤ i → i < i0 → zStep c (nI (100 * i)) = -1 := by
  intro f
  induction f with
  | zero => exact fun j => Or.inl ⟨rfl, fun i h1 h2 => absurd h2 (by omega)⟩
  | succ f ih =>
    intro j
    by_cases hp : zStep c (nI (100 * j)) = -1
    · have e : zAboN c (f + 1) j = zAboN c f (j + 1) := if_pos hp
      rw [e]
      rcases ih (j + 1) with ⟨h1, h2⟩ | ⟨i0, h1, h2, h3, h4, h5⟩
      · refine Or.inl ⟨h1, fun i hi hi2 => ?_⟩
        rcases Nat.lt_or_ge j i with q | q
        · exact h2 i q (by omega)
        · rw [show i = j by omega]; exact hp
      · refine Or.inr ⟨i0, by omega, by omega, h3, h4, fun i hi hi2 => ?_⟩
        rcases Nat.lt_or_ge j i with q | q
        · exact h5 i q hi2
        · rw [show i = j by omega]; exact hp
    · exact Or.inr ⟨j, by omega, by omega, if_neg hp, hp, fun i hi hi2 => absurd hi (by omega)⟩
theorem zNear_1 {c : C5} (hc : okC c) {p : Int32} (hp : zp p) (h : zBel c p = -1) : zAbo c p = zNear c p := by
  obtain ⟨a, ha, rfl⟩ := nI_of2 (n := 12000) (M := 12000) rfl (Int32.not_lt.mpr hp.1) hp.2
  unfold zBel at h
  unfold zAbo
  rw [nI_clamp (by omega)] at h ⊢
  have hb : ∀ i, i < a / 100 + 1 → zStep c (nI (100 * i)) = -1 := by
    rcases zBelN_char c (a / 100 + 1) with ⟨-, h2⟩ | ⟨j, h1, h2, h3, h4⟩
    · exact h2
    · rw [h] at h2
      have h9 : nI (100 * j) < 0 := by rw [← h2]; decide
      exact absurd h9 (nI_pos (by omega))
  rcases zAboN_char c (120 - a / 100) (a / 100 + 1) with ⟨h1, h2⟩ | ⟨j, h1, h2, h3, h4, h5⟩
  · rw [h1, zNear_no hc ha (fun i hi => ?_)]
    rcases Nat.lt_or_ge i (a / 100 + 1) with q | q
    · exact hb i q
    · exact h2 i q (by omega)
  · rw [h3]
    refine (zNear_is hc ha (by omega) h4 (fun i hi hpi => ?_)).symm
    have q1 : ¬ i < a / 100 + 1 := fun q => hpi (hb i q)
    have q2 : ¬ i < j := fun q => hpi (h5 i (by omega) q)
    unfold zD
    split <;> split <;> omega
theorem zNear_2 {c : C5} (hc : okC c) {p : Int32} (hp : zp p) (h : ¬ zBel c p = -1) (h2 : zAbo c p = -1) : zBel c p = zNear c p := by
  obtain ⟨a, ha, rfl⟩ := nI_of2 (n := 12000) (M := 12000) rfl (Int32.not_lt.mpr hp.1) hp.2
  unfold zAbo at h2
  unfold zBel at h ⊢
  rw [nI_clamp (by omega)] at h h2 ⊢
  have hb : ∀ i, a / 100 + 1 ≤ i → i ≤ 120 → zStep c (nI (100 * i)) = -1 := by
    rcases zAboN_char c (120 - a / 100) (a / 100 + 1) with ⟨-, g2⟩ | ⟨j, g1, g2, g3, g4, g5⟩
    · exact fun i q1 q2 => g2 i q1 (by omega)
    · rw [h2] at g3
      have h9 : nI (100 * j) < 0 := by rw [← g3]; decide
      exact absurd h9 (nI_pos (by omega))
  rcases zBelN_char c (a / 100 + 1) with ⟨g1, -⟩ | ⟨j, g1, g2, g3, g4⟩
  · exact absurd g1 h
  · rw [g2]
    refine (zNear_is hc ha (by omega) g3 (fun i hi hpi => ?_)).symm
    have q1 : i < a / 100 + 1 := by
      rcases Nat.lt_or_ge i (a / 100 + 1) with q | q
      · exact q
      · exact absurd (hb i q hi) hpi
    have q2 : ¬ j < i := fun q => hpi (g4 i q q1)
    unfold zD
    split <;> split <;> omega
theorem zNear_both {c : C5} (hc : okC c) {p : Int32} (hp : zp p) (h : ¬ zBel c p = -1) (h2 : ¬ zAbo c p = -1) : (zAbo c p - p < p - zBel c p → zAbo c p = zNear c p) ∧ (¬ zAbo c p - p < p - zBel c p → zBel c p = zNear c p) := by
  obtain ⟨a, ha, rfl⟩ := nI_of2 (n := 12000) (M := 12000) rfl (Int32.not_lt.mpr hp.1) hp.2
  unfold zAbo at h2 ⊢
  unfold zBel at h ⊢
  rw [nI_clamp (by omega)] at h h2 ⊢
  rcases zBelN_char c (a / 100 + 1) with ⟨g1, -⟩ | ⟨j, g1, g2, g3, g4⟩
  · exact absurd g1 h
  rcases zAboN_char c (120 - a / 100) (a / 100 + 1) with ⟨f1, -⟩ | ⟨k, f1, f2, f3, f4, f5⟩
  · exact absurd f1 h2
  rw [g2, f3, pk_sub (a := 100 * k) (b := a) (by omega), pk_sub (a := a) (b := 100 * j) (by omega), nI_ltI (by omega) (by omega)]
  constructor
  · intro hd
    refine (zNear_is hc ha (by omega) f4 (fun i hi hpi => ?_)).symm
    rcases Nat.lt_or_ge i (a / 100 + 1) with q1 | q1
    · have q2 : ¬ j < i := fun q => hpi (g4 i q q1)
      unfold zD
      split <;> split <;> omega
    · have q2 : ¬ i < k := fun q => hpi (f5 i q1 q)
      unfold zD
      split <;> split <;> omega
  · intro hd
    refine (zNear_is hc ha (by omega) g3 (fun i hi hpi => ?_)).symm
    rcases Nat.lt_or_ge i (a / 100 + 1) with q1 | q1
    · have q2 : ¬ j < i := fun q => hpi (g4 i q q1)
      unfold zD
      split <;> split <;> omega
    · have q2 : ¬ i < k := fun q => hpi (f5 i q1 q)
      unfold zD
      split <;> split <;> omega
theorem zNear_rng {c : C5} (hc : okC c) {p : Int32} (hp : zp p) : zNear c p = -1 ∨ (0 ≤ zNear c p ∧ zNear c p ≤ 12000) := by
  obtain ⟨a, ha, rfl⟩ := nI_of2 (n := 12000) (M := 12000) rfl (Int32.not_lt.mpr hp.1) hp.2
  rcases zNearN_char hc ha 121 (Nat.le_refl _) with ⟨h1, h2⟩ | ⟨j2, h1, h2, h3, h4⟩
  · exact Or.inl h1
  · refine Or.inr ?_
    show 0 ≤ zNearN c (nI a) 121 ∧ zNearN c (nI a) 121 ≤ 12000
    rw [h2]
    exact ⟨nI_pos' (by omega), (nI_leI (b := 12000) (by omega) (by decide)).mpr (by omega)⟩
theorem z_fl {p : Int32} (hp : zp p) : p - (p - p / 100 * 100) = nI (100 * (p.toNatClampNeg / 100)) := by
  obtain ⟨a, ha, rfl⟩ := nI_of2 (n := 12000) (M := 12000) rfl (Int32.not_lt.mpr hp.1) hp.2
  have e1 : nI a - nI a / 100 * 100 = nI (a % 100) := pk_rem (d := 100) (by omega) (by decide) (by decide)
  rw [e1, pk_sub (Nat.mod_le _ _), nI_clamp (by omega)]
  congr 1
  omega
theorem zv_neg {k : Nat} (hk : k ≤ 121) : nI (100 * k) - 100 < 0 ↔ k = 0 := by
  constructor
  · intro h
    rcases k with _ | k
    · rfl
    · have e : nI (100 * (k + 1)) - 100 = nI (100 * k) := by
        have := pk_sub (a := 100 * (k + 1)) (b := 100) (by omega)
        rw [show 100 * (k + 1) - 100 = 100 * k by omega] at this
        exact this
      rw [e] at h
      exact absurd h (nI_pos (by omega))
  · intro h
    subst h
    decide
theorem zv_s (k : Nat) : nI (100 * (k + 1)) - 100 = nI (100 * k) := by
  have := pk_sub (a := 100 * (k + 1)) (b := 100) (by omega)
  rw [show 100 * (k + 1) - 100 = 100 * k by omega] at this
  exact this
theorem z_dec (x : Int32) : x + Int32.ofInt (-100) = x - 100 := by
  rw [Int32.sub_eq_add_neg]; rfl
theorem zp_n {p : Int32} (hp : zp p) : p.toNatClampNeg ≤ 12000 := by
  obtain ⟨a, ha, rfl⟩ := nI_of2 (n := 12000) (M := 12000) rfl (Int32.not_lt.mpr hp.1) hp.2
  rw [nI_clamp (by omega)]; exact ha
theorem zw_lt {w : Int32} (h : zw w) : w < 4 := by
  obtain ⟨a, ha, rfl⟩ := nI_of2 (n := 3) (M := 3) rfl (Int32.not_lt.mpr h.1) h.2
  exact nI_lt (b := 4) (by omega) (by decide)
theorem zTow_1 {sp n due : Int32} (h : ¬ (due - n) * sp / 100 = 0) : n + (due - n) * sp / 100 = zTow sp n due := by
  unfold zTow
  rw [if_neg (fun q => h q.1)]
theorem zTow_2 {sp n due : Int32} (h : sp = 0) : n + (due - n) * sp / 100 = zTow sp n due := by
  unfold zTow
  rw [if_neg (fun q => q.2 h)]
theorem zTow_4 (m : Int32) : (if (-1) < (if 1 < m then 1 else m) then (if 1 < m then 1 else m) else (-1)) = (if 0 < m then 1 else if m < 0 then -1 else 0 : Int32) := by
  have e0 : (0 : Int32).toInt = 0 := rfl
  have e1 : (1 : Int32).toInt = 1 := rfl
  have em : (-1 : Int32).toInt = -1 := rfl
  by_cases h1 : 1 < m
  · rw [if_pos h1, if_pos (show (-1 : Int32) < 1 by decide), if_pos (show (0 : Int32) < m by rw [fa_lt] at h1 ⊢; omega)]
  · rw [if_neg h1]
    by_cases h3 : 0 < m
    · have h4 : m = 1 := by rw [fa_eq]; rw [fa_lt] at h1 h3; omega
      subst h4
      decide
    · rw [if_neg h3]
      by_cases h5 : m < 0
      · rw [if_pos h5, if_neg (show ¬ (-1 : Int32) < m by rw [fa_lt] at h5 ⊢; omega)]
      · have h4 : m = 0 := by rw [fa_eq]; rw [fa_lt] at h5 h3; omega
        subst h4
        decide
theorem zTow_3 {sp n due : Int32} (h : (due - n) * sp / 100 = 0) (h2 : ¬ sp = 0) : n + (if (-1) < (if 1 < (due - n) then 1 else (due - n)) then (if 1 < (due - n) then 1 else (due - n)) else (-1)) = zTow sp n due := by
  rw [zTow_4 (due - n)]
  have e : zTow sp n due = n + (if 0 < due - n then 1 else if due - n < 0 then -1 else 0) := congrArg (fun q => n + q) (if_pos ⟨h, h2⟩)
  rw [e]
theorem zW_ix {i ky : Nat} (hi : i < 12) (hk : ky < 12) : ((nI i - nI ky).toInt % 12).toNat = (i + 12 - ky) % 12 := by
  rw [pk_sub_toInt (by omega) (by omega)]
  omega
theorem zWn_0 {md ky i : Nat} {g : Nat → Int32} (h : zSt md ((i + 12 - ky) % 12) < 0) : zWn md ky g (i + 1) = zWn md ky g i := by
  show zWn md ky g i + (if _ then _ else _) = _
  rw [if_pos h, Int32.add_zero]
theorem zWn_1 {md ky i : Nat} {g : Nat → Int32} (h : ¬ zSt md ((i + 12 - ky) % 12) < 0) : zWn md ky g (i + 1) = zWn md ky g i + g i := by
  show zWn md ky g i + (if _ then _ else _) = _
  rw [if_neg h]
theorem zRcn_0 {c : C5} {k : Nat} (h : zStep c (nI (100 * k)) < 0) : zRcn c (k + 1) = zRcn c k := by
  show zRcn c k + (if _ then _ else _) = _
  rw [if_pos h, Int32.add_zero]
theorem zRcn_1 {c : C5} {k : Nat} (h : ¬ zStep c (nI (100 * k)) < 0) : zRcn c (k + 1) = zRcn c k + 1 := by
  show zRcn c k + (if _ then _ else _) = _
  rw [if_neg h]
def zCt (c : C5) : Nat → Nat
  | 0 => 0
  | k + 1 => zCt c k + (if zStep c (nI (100 * k)) < 0 then 0 else 1)
theorem zCt_le (c : C5) : ∀ k, zCt c k ≤ k := by
  intro k
  induction k with
  | zero => exact Nat.le_refl _
  | succ k ih =>
    show zCt c k + (if _ then _ else _) ≤ _
    split <;> omega
theorem zCt_mono (c : C5) (k : Nat) : ∀ m, zCt c k ≤ zCt c (k + m) := by
  intro m
  induction m with
  | zero => exact Nat.le_refl _
  | succ m ih =>
    show _ ≤ zCt c (k + m) + (if _ then _ else _)
    split <;> omega
theorem zRcn_ct (c : C5) : ∀ k, zRcn c k = nI (zCt c k) := by
  intro k
  induction k with
  | zero => rfl
  | succ k ih =>
    by_cases h : zStep c (nI (100 * k)) < 0
    · rw [zRcn_0 h, ih]
      show _ = nI (zCt c k + (if _ then _ else _))
      rw [if_pos h]; rfl
    · rw [zRcn_1 h, ih]
      show _ = nI (zCt c k + (if _ then _ else _))
      rw [if_neg h]; exact nI_1 _
theorem zRg_hit {c : C5} {num : Int32} {k : Nat} (hk : k < 121) (h : ¬ zStep c (nI (100 * k)) < 0) (hn : num = zRcn c k) : zRg c num = nI (100 * k) := by
  have key : ∀ m, k + 1 + m ≤ 121 → zRgn c num (k + 1 + m) = nI (100 * k) := by
    intro m
    induction m with
    | zero =>
      intro _
      show (if _ then _ else _) = _
      rw [if_pos ⟨h, hn⟩]
    | succ m ih =>
      intro hm
      have e : zRgn c num (k + 1 + (m + 1)) = zRgn c num (k + 1 + m) := by
        refine if_neg ?_
        rintro ⟨-, q⟩
        have q : num = zRcn c (k + 1 + m) := q
        rw [hn, zRcn_ct, zRcn_ct] at q
        have h1 := zCt_le c k
        have h2 := zCt_le c (k + 1 + m)
        have h3 := zCt_mono c (k + 1) m
        have h4 : zCt c (k + 1) = zCt c k + 1 := by
          show zCt c k + (if _ then _ else _) = _
          rw [if_neg h]
        have := (nI_eq (by omega) (by omega)).mp q
        omega
      rw [e]; exact ih (by omega)
  have := key (120 - k) (by omega)
  rw [show k + 1 + (120 - k) = 121 by omega] at this
  exact this
theorem zRgn_0 {c : C5} {num : Int32} {k : Nat} (h : ¬ (¬ zStep c (nI (100 * k)) < 0 ∧ num = zRcn c k)) (h2 : zRgn c num k = -1) : zRgn c num (k + 1) = -1 := by
  show (if _ then _ else _) = _
  rw [if_neg h]; exact h2
theorem zk_in {k : Int32} (h : 0 ≤ k ∧ k ≤ 11) : vp_in k 12 := by
  obtain ⟨a, ha, rfl⟩ := nI_of2 (n := 11) (M := 11) rfl (Int32.not_lt.mpr h.1) h.2
  exact vp_in_nI (by omega) (by decide)
theorem zk_lt {k : Int32} (h : 0 ≤ k ∧ k ≤ 11) : k < 12 := by
  obtain ⟨a, ha, rfl⟩ := nI_of2 (n := 11) (M := 11) rfl (Int32.not_lt.mpr h.1) h.2
  exact nI_lt (b := 12) (by omega) (by decide)
theorem zn_in {k n : Nat} (h : k ≤ n) (hn : n < 2 ^ 31) : 0 ≤ nI k ∧ nI k ≤ nI n := ⟨nI_pos' (by omega), (nI_leI (by omega) hn).mpr h⟩
end
section
theorem zNext_k {c : C5} {r p : Int32} (h : ¬ r = -1 ∧ zAbs (p - r) ≤ c.2.2.2.1) : r = zNext c r p := (if_pos h).symm
theorem zNext_n {c : C5} {r p : Int32} (h : ¬ (¬ r = -1 ∧ zAbs (p - r) ≤ c.2.2.2.1)) : zNear c p = zNext c r p := (if_neg h).symm
theorem zNud_l {c : C5} {r0 n0 r p : Int32} (h : zLeap c r0 r) : 0 = zNud c r0 n0 r p := (if_pos h).symm
theorem zNud_n {c : C5} {r0 n0 r p : Int32} (h : ¬ zLeap c r0 r) : zTow c.2.2.1 n0 (r - p) = zNud c r0 n0 r p := (if_neg h).symm

set_option maxHeartbeats 4000000 in
set_option maxRecDepth 100000 in
theorem c_X0_requireRange_v (l : Launch) (v : Int32) (a : Int32) (b : Int32) (hv : a ≤ v ∧ v ≤ b) : Met l yX0_requireRange wsX0_requireRange ({ frames := 0, cells := 0, slots := 0, locals := 0 }) (va_Pc [.int v, .int a, .int b] (fun _ => True)) (va_Sv (fun _ => True)) 0 0 (fun _ => False) := by
  refine Met.ofW (cc := cX0_requireRange) (maxL := 3) (ret := none) (by decide) rfl ?_
  intro pr e s m ag below meth cd s₁ B hml hv
  obtain ⟨rfl, -⟩ := hv
  have hx := B.exec
  have hb := B.bytes
  have hr := B.returns
  have hts := atoms_spec (ws := wsX0_requireRange) B.pre
  have hown : s.vm.findClass RX0 = some m.cls := findClass_of_methodNamed B.named
  have hlocks := B.notSynchronized
  have hl := lv_entry ([.int v, .int a, .int b]) (n := 3) (Nat.le_of_ble_eq_true rfl)
  rw [lg_entry_eq]
  generalize (lg_sl ([.int v, .int a, .int b]) ++ List.replicate (3 - (lg_sl ([.int v, .int a, .int b])).length) Slot.unset).toArray = ls at hl ⊢
  have hl : lv_has ls 3 [(0, .int v), (1, .int a), (2, .int b)] := hl
  refine lv_iload_n hx hb dX0_requireRange_0 rfl (lv_at hl 0 rfl) ?_
  refine lv_iload_n hx hb dX0_requireRange_1 rfl (lv_at hl 1 rfl) ?_
  refine lv_icmp_lt (tgt := 10) hx hb dX0_requireRange_2 (by decide) (fun c_2 => ?_) (fun c_2 => ?_)
  · exact absurd c_2 (Int32.not_lt.mpr hv.1)
  · refine lv_iload_n hx hb dX0_requireRange_5 rfl (lv_at hl 0 rfl) ?_
    refine lv_iload_n hx hb dX0_requireRange_6 rfl (lv_at hl 2 rfl) ?_
    refine lv_icmp_le (tgt := 20) hx hb dX0_requireRange_7 (by decide) (fun c_7 => ?_) (fun c_7 => ?_)
    · exact W.vret hx hb hr (fun t ht hW => ⟨rfl, trivial, ht⟩) (fun _ h9 => nomatch h9) dX0_requireRange_20
    · exact absurd hv.2 c_7

set_option maxHeartbeats 4000000 in
set_option maxRecDepth 100000 in
theorem c_X0_requireWren_v (l : Launch) (w : Int32) (hw : zw w) : Met l yX0_requireWren wsX0_requireWren ({ frames := 0, cells := 0, slots := 0, locals := 0 }) (va_Pc [.int w] (fun _ => True)) (va_Sv (fun _ => True)) 0 0 (fun _ => False) := by
  refine Met.ofW (cc := cX0_requireWren) (maxL := 1) (ret := none) (by decide) rfl ?_
  intro pr e s m ag below meth cd s₁ B hml hv
  obtain ⟨rfl, -⟩ := hv
  have hx := B.exec
  have hb := B.bytes
  have hr := B.returns
  have hts := atoms_spec (ws := wsX0_requireWren) B.pre
  have hown : s.vm.findClass RX0 = some m.cls := findClass_of_methodNamed B.named
  have hlocks := B.notSynchronized
  have hl := lv_entry ([.int w]) (n := 1) (Nat.le_of_ble_eq_true rfl)
  rw [lg_entry_eq]
  generalize (lg_sl ([.int w]) ++ List.replicate (1 - (lg_sl ([.int w])).length) Slot.unset).toArray = ls at hl ⊢
  have hl : lv_has ls 1 [(0, .int w)] := hl
  refine lv_iload_n hx hb dX0_requireWren_0 rfl (lv_at hl 0 rfl) ?_
  refine lv_if_lt (tgt := 9) hx hb dX0_requireWren_1 (by decide) (fun c_1 => ?_) (fun c_1 => ?_)
  · exact absurd c_1 (Int32.not_lt.mpr hw.1)
  · refine lv_iload_n hx hb dX0_requireWren_4 rfl (lv_at hl 0 rfl) ?_
    refine lv_iconst (v := 4) hx hb dX0_requireWren_5 (by decide) ?_
    refine lv_icmp_lt (tgt := 19) hx hb dX0_requireWren_6 (by decide) (fun c_6 => ?_) (fun c_6 => ?_)
    · exact W.vret hx hb hr (fun t ht hW => ⟨rfl, trivial, ht⟩) (fun _ h9 => nomatch h9) dX0_requireWren_19
    · exact absurd (zw_lt hw) c_6

set_option maxHeartbeats 4000000 in
set_option maxRecDepth 100000 in
theorem c_X0_requirePitch_v (l : Launch) (p : Int32) (hp : zp p) : Met l yX0_requirePitch wsX0_requirePitch ({ frames := 1, cells := 0, slots := 0, locals := 22 }) (va_Pc [.int p] (fun _ => True)) (va_Sv (fun _ => True)) 0 0 (fun _ => False) := by
  refine Met.ofW (cc := cX0_requirePitch) (maxL := 1) (ret := none) (by decide) rfl ?_
  intro pr e s m ag below meth cd s₁ B hml hv
  obtain ⟨rfl, -⟩ := hv
  have hx := B.exec
  have hb := B.bytes
  have hr := B.returns
  have hts := atoms_spec (ws := wsX0_requirePitch) B.pre
  have hown : s.vm.findClass RX0 = some m.cls := findClass_of_methodNamed B.named
  have hlocks := B.notSynchronized
  have hl := lv_entry ([.int p]) (n := 1) (Nat.le_of_ble_eq_true rfl)
  rw [lg_entry_eq]
  generalize (lg_sl ([.int p]) ++ List.replicate (1 - (lg_sl ([.int p])).length) Slot.unset).toArray = ls at hl ⊢
  have hl : lv_has ls 1 [(0, .int p)] := hl
  refine lv_iload_n hx hb dX0_requirePitch_0 rfl (lv_at hl 0 rfl) ?_
  refine lv_iconst (v := 0) hx hb dX0_requirePitch_1 (by decide) ?_
  refine lv_sipush (v := 12000) hx hb dX0_requirePitch_2 (by decide) ?_
  refine va_csv ((va_runS (As := [.int p, .int 0, .int 12000]) (rest := []) ⟨hx, hb, hml, hown, hts⟩ (c_X0_requireRange_v l p 0 12000 hp) (va_cwS 3 hts gX0_requirePitch_X0_requireRange rfl rfl rfl (by decide +kernel) ⟨Nat.le_of_ble_eq_true rfl, Nat.le_of_ble_eq_true rfl⟩) ⟨zT.blind, zT.call⟩ rfl rfl hl.1 rfl (lv_room (Nat.le_of_ble_eq_true rfl)) dX0_requirePitch_5 ⟨Nat.zero_le _, Nat.zero_le _⟩).run) (fun _ => ?_)
  exact W.vret hx hb hr (fun t ht hW => ⟨rfl, trivial, ht⟩) (fun _ h9 => nomatch h9) dX0_requirePitch_8

set_option maxHeartbeats 4000000 in
set_option maxRecDepth 100000 in
theorem c_X0_rungNotAbove (l : Launch) (D : va_G) (N0 : Nat) (cA cL : ClassId) (E : va_W) (h : Nat) (d : Nat → Nat) (z : S7) (c : C5) (p : Int32) (hc : okC c) (hp : zp p) : Met l yX0_rungNotAbove wsX0_rungNotAbove ({ frames := 3, cells := 0, slots := 0, locals := 68 }) (va_Pc [.ref h, .int p] (zPre D N0 cA cL (wX h d cA z c ++ E))) (vp_Si (fun rv => rv = zBel c p)) 0 0 (fun _ => False) := by
  refine Met.ofW (cc := cX0_rungNotAbove) (maxL := 3) (ret := (some .int)) (by decide) rfl ?_
  intro pr e s m ag below meth cd s₁ B hml hv
  obtain ⟨rfl, hN, hP, hD, hK, hE⟩ := hv
  have hx := B.exec
  have hb := B.bytes
  have hr := B.returns
  have hts := atoms_spec (ws := wsX0_rungNotAbove) B.pre
  have hown : s.vm.findClass RX0 = some m.cls := findClass_of_methodNamed B.named
  have hlocks := B.notSynchronized
  have hS : va_S (zA N0) s.heap s.heap [] := va_S.rf
  have hl := lv_entry ([.ref h, .int p]) (n := 3) (Nat.le_of_ble_eq_true rfl)
  rw [lg_entry_eq]
  generalize (lg_sl ([.ref h, .int p]) ++ List.replicate (3 - (lg_sl ([.ref h, .int p])).length) Slot.unset).toArray = ls at hl ⊢
  have hl : lv_has ls 3 [(0, .ref h), (1, .int p)] := hl
  have hpn := zp_n hp
  have loop : ∀ (n : Nat) (k : Nat), k ≤ 121 → k < n → zBelN c k = zBel c p → ∀ (ls : Array Slot), lv_has ls 3 [(2, .int (nI (100 * k) - 100)), (0, .ref h), (1, .int p)] → W pr l e (headSpec wsX0_rungNotAbove ({ frames := 3, cells := 0, slots := 0, locals := 68 })).room s m ([.ref h, .int p] : List Value).toArray below meth cd s.heap [] 0 0 (MQ below (vp_Si (fun rv => rv = zBel c p)) ([.ref h, .int p] : List Value).toArray s 0 0 (fun _ => False)) (F0 m 7 ls []) := by
    intro n
    induction n with
    | zero =>
      intro k hk hn he
      omega
    | succ n ih =>
      intro k hk hn he ls hl
      refine lv_iload_n hx hb dX0_rungNotAbove_7 rfl (lv_at hl 0 rfl) ?_
      refine lv_if_lt (tgt := 28) hx hb dX0_rungNotAbove_8 (by decide) (fun c_8 => ?_) (fun c_8 => ?_)
      · have k0 : k = 0 := (zv_neg hk).mp c_8
        subst k0
        refine lv_iconst (v := (-1)) hx hb dX0_rungNotAbove_28 (by decide) ?_
        exact W.iret (v := (-1)) hx hb hr (fun t ht hW => ⟨_, rfl, he, ht⟩) (fun _ h9 => nomatch h9) dX0_rungNotAbove_29
      · obtain ⟨j, rfl⟩ : ∃ j, k = j + 1 := ⟨k - 1, by have : ¬ k = 0 := fun q => c_8 ((zv_neg hk).mpr q); omega⟩
        rw [zv_s j] at hl
        refine lv_aload_n hx hb dX0_rungNotAbove_11 rfl (lv_at hl 1 rfl) ?_
        refine lv_iload_n hx hb dX0_rungNotAbove_12 rfl (lv_at hl 0 rfl) ?_
        refine vp_callSi ((va_runV (As := [.int (nI (100 * j))]) (rest := []) ⟨hx, hb, hml, hown, hts⟩ (c_X0_stepAt l D N0 cA cL E h d z c (nI (100 * j)) hc) (cwV 1 hts gX0_rungNotAbove_X0_stepAt rfl rfl rfl (by decide +kernel) ⟨Nat.le_of_ble_eq_true rfl, Nat.le_of_ble_eq_true rfl⟩) ⟨zPre.blind, va_recv hK hP (ci := 0) (q0 := 0) rfl rfl, zPre.call hN hP hD hK hE hS⟩ rfl rfl hl.1 rfl (lv_room (Nat.le_of_ble_eq_true rfl)) dX0_rungNotAbove_13 ⟨Nat.zero_le _, Nat.zero_le _⟩).run) (fun r_13 h_13 => ?_)
        have h_13 : r_13 = (zStep c (nI (100 * j))) := h_13
        subst h_13
        refine lv_iconst (v := (-1)) hx hb dX0_rungNotAbove_16 (by decide) ?_
        refine lv_icmp_eq (tgt := 22) hx hb dX0_rungNotAbove_17 (by decide) (fun c_17 => ?_) (fun c_17 => ?_)
        · refine lv_iinc (v := (nI (100 * j) - 100)) (lv' := [(2, .int (nI (100 * j) - 100)), (0, .ref h), (1, .int p)]) hx hb dX0_rungNotAbove_22 hl (k := 0) rfl (z_dec _) (by decide) rfl (fun ls hl => ?_)
          refine lv_goto (tgt := 7) hx hb dX0_rungNotAbove_25 (by decide) ?_
          exact ih j (by omega) (by omega) ((if_pos c_17).symm.trans he) ls (lv_sub hl [0, 1, 2] rfl)
        · refine lv_iload_n hx hb dX0_rungNotAbove_20 rfl (lv_at hl 0 rfl) ?_
          exact W.iret (v := (nI (100 * j))) hx hb hr (fun t ht hW => ⟨_, rfl, (if_neg c_17).symm.trans he, ht⟩) (fun _ h9 => nomatch h9) dX0_rungNotAbove_21
  refine lv_iload_n hx hb dX0_rungNotAbove_0 rfl (lv_at hl 1 rfl) ?_
  refine lv_iload_n hx hb dX0_rungNotAbove_1 rfl (lv_at hl 1 rfl) ?_
  refine lv_bipush (v := 100) hx hb dX0_rungNotAbove_2 (by decide) ?_
  refine lv_irem hx hb dX0_rungNotAbove_4 (by decide) ?_
  refine lv_isub hx hb dX0_rungNotAbove_5 ?_
  rw [show ((p - (p - p / 100 * 100)) : Int32) = (nI (100 * (p.toNatClampNeg / 100 + 1)) - 100) from (z_fl hp).trans (zv_s _).symm]
  refine lv_istore_n (lv' := [(2, .int (nI (100 * (p.toNatClampNeg / 100 + 1)) - 100)), (0, .ref h), (1, .int p)]) hx hb dX0_rungNotAbove_6 rfl hl (by decide) rfl (fun ls hl => ?_)
  exact loop 122 (p.toNatClampNeg / 100 + 1) (by omega) (by omega) rfl ls (lv_sub hl [0, 1, 2] rfl)

set_option maxHeartbeats 4000000 in
set_option maxRecDepth 100000 in
theorem c_X0_rungAbove (l : Launch) (D : va_G) (N0 : Nat) (cA cL : ClassId) (E : va_W) (h : Nat) (d : Nat → Nat) (z : S7) (c : C5) (p : Int32) (hc : okC c) (hp : zp p) : Met l yX0_rungAbove wsX0_rungAbove ({ frames := 3, cells := 0, slots := 0, locals := 68 }) (va_Pc [.ref h, .int p] (zPre D N0 cA cL (wX h d cA z c ++ E))) (vp_Si (fun rv => rv = zAbo c p)) 0 0 (fun _ => False) := by
  refine Met.ofW (cc := cX0_rungAbove) (maxL := 3) (ret := (some .int)) (by decide) rfl ?_
  intro pr e s m ag below meth cd s₁ B hml hv
  obtain ⟨rfl, hN, hP, hD, hK, hE⟩ := hv
  have hx := B.exec
  have hb := B.bytes
  have hr := B.returns
  have hts := atoms_spec (ws := wsX0_rungAbove) B.pre
  have hown : s.vm.findClass RX0 = some m.cls := findClass_of_methodNamed B.named
  have hlocks := B.notSynchronized
  have hS : va_S (zA N0) s.heap s.heap [] := va_S.rf
  have hl := lv_entry ([.ref h, .int p]) (n := 3) (Nat.le_of_ble_eq_true rfl)
  rw [lg_entry_eq]
  generalize (lg_sl ([.ref h, .int p]) ++ List.replicate (3 - (lg_sl ([.ref h, .int p])).length) Slot.unset).toArray = ls at hl ⊢
  have hl : lv_has ls 3 [(0, .ref h), (1, .int p)] := hl
  have hpn := zp_n hp
  have loop : ∀ (n : Nat) (f j : Nat), f + j = 121 → f < n → zAboN c f j = zAbo c p → ∀ (ls : Array Slot), lv_has ls 3 [(2, .int (nI (100 * j))), (0, .ref h), (1, .int p)] → W pr l e (headSpec wsX0_rungAbove ({ frames := 3, cells := 0, slots := 0, locals := 68 })).room s m ([.ref h, .int p] : List Value).toArray below meth cd s.heap [] 0 0 (MQ below (vp_Si (fun rv => rv = zAbo c p)) ([.ref h, .int p] : List Value).toArray s 0 0 (fun _ => False)) (F0 m 10 ls []) := by
    intro n
    induction n with
    | zero =>
      intro f j hf hn he
      omega
    | succ n ih =>
      intro f j hf hn he ls hl
      refine lv_iload_n hx hb dX0_rungAbove_10 rfl (lv_at hl 0 rfl) ?_
      refine lv_sipush (v := 12000) hx hb dX0_rungAbove_11 (by decide) ?_
      refine lv_icmp_gt (tgt := 34) hx hb dX0_rungAbove_14 (by decide) (fun c_14 => ?_) (fun c_14 => ?_)
      · have f0 : f = 0 := by have := (nI_ltI (a := 12000) (by decide) (by omega)).mp c_14; omega
        subst f0
        refine lv_iconst (v := (-1)) hx hb dX0_rungAbove_34 (by decide) ?_
        exact W.iret (v := (-1)) hx hb hr (fun t ht hW => ⟨_, rfl, he, ht⟩) (fun _ h9 => nomatch h9) dX0_rungAbove_35
      · obtain ⟨g, rfl⟩ : ∃ g, f = g + 1 := ⟨f - 1, by have : ¬ f = 0 := fun q => c_14 ((nI_ltI (a := 12000) (by decide) (by omega)).mpr (by omega)); omega⟩
        refine lv_aload_n hx hb dX0_rungAbove_17 rfl (lv_at hl 1 rfl) ?_
        refine lv_iload_n hx hb dX0_rungAbove_18 rfl (lv_at hl 0 rfl) ?_
        refine vp_callSi ((va_runV (As := [.int (nI (100 * j))]) (rest := []) ⟨hx, hb, hml, hown, hts⟩ (c_X0_stepAt l D N0 cA cL E h d z c (nI (100 * j)) hc) (cwV 1 hts gX0_rungAbove_X0_stepAt rfl rfl rfl (by decide +kernel) ⟨Nat.le_of_ble_eq_true rfl, Nat.le_of_ble_eq_true rfl⟩) ⟨zPre.blind, va_recv hK hP (ci := 0) (q0 := 0) rfl rfl, zPre.call hN hP hD hK hE hS⟩ rfl rfl hl.1 rfl (lv_room (Nat.le_of_ble_eq_true rfl)) dX0_rungAbove_19 ⟨Nat.zero_le _, Nat.zero_le _⟩).run) (fun r_19 h_19 => ?_)
        have h_19 : r_19 = (zStep c (nI (100 * j))) := h_19
        subst h_19
        refine lv_iconst (v := (-1)) hx hb dX0_rungAbove_22 (by decide) ?_
        refine lv_icmp_eq (tgt := 28) hx hb dX0_rungAbove_23 (by decide) (fun c_23 => ?_) (fun c_23 => ?_)
        · refine lv_iinc (v := (nI (100 * (j + 1)))) (lv' := [(2, .int (nI (100 * (j + 1)))), (0, .ref h), (1, .int p)]) hx hb dX0_rungAbove_28 hl (k := 0) rfl (z_inc (100 * j) 100) (by decide) rfl (fun ls hl => ?_)
          refine lv_goto (tgt := 10) hx hb dX0_rungAbove_31 (by decide) ?_
          exact ih g (j + 1) (by omega) (by omega) ((if_pos c_23).symm.trans he) ls (lv_sub hl [0, 1, 2] rfl)
        · refine lv_iload_n hx hb dX0_rungAbove_26 rfl (lv_at hl 0 rfl) ?_
          exact W.iret (v := (nI (100 * j))) hx hb hr (fun t ht hW => ⟨_, rfl, (if_neg c_23).symm.trans he, ht⟩) (fun _ h9 => nomatch h9) dX0_rungAbove_27
  refine lv_iload_n hx hb dX0_rungAbove_0 rfl (lv_at hl 1 rfl) ?_
  refine lv_iload_n hx hb dX0_rungAbove_1 rfl (lv_at hl 1 rfl) ?_
  refine lv_bipush (v := 100) hx hb dX0_rungAbove_2 (by decide) ?_
  refine lv_irem hx hb dX0_rungAbove_4 (by decide) ?_
  refine lv_isub hx hb dX0_rungAbove_5 ?_
  refine lv_bipush (v := 100) hx hb dX0_rungAbove_6 (by decide) ?_
  refine lv_iadd hx hb dX0_rungAbove_8 ?_
  rw [show (((p - (p - p / 100 * 100)) + 100) : Int32) = (nI (100 * (p.toNatClampNeg / 100 + 1))) from (by rw [z_fl hp]; exact nI_add _ 100)]
  refine lv_istore_n (lv' := [(2, .int (nI (100 * (p.toNatClampNeg / 100 + 1)))), (0, .ref h), (1, .int p)]) hx hb dX0_rungAbove_9 rfl hl (by decide) rfl (fun ls hl => ?_)
  exact loop 122 (120 - p.toNatClampNeg / 100) (p.toNatClampNeg / 100 + 1) (by omega) (by omega) rfl ls (lv_sub hl [0, 1, 2] rfl)

set_option maxHeartbeats 4000000 in
set_option maxRecDepth 100000 in
theorem c_X0_nearestRung (l : Launch) (D : va_G) (N0 : Nat) (cA cL : ClassId) (E : va_W) (h : Nat) (d : Nat → Nat) (z : S7) (c : C5) (p : Int32) (hc : okC c) (hp : zp p) : Met l yX0_nearestRung wsX0_nearestRung ({ frames := 4, cells := 0, slots := 0, locals := 90 }) (va_Pc [.ref h, .int p] (zPre D N0 cA cL (wX h d cA z c ++ E))) (vp_Si (fun rv => rv = zNear c p)) 0 0 (fun _ => False) := by
  refine Met.ofW (cc := cX0_nearestRung) (maxL := 4) (ret := (some .int)) (by decide) rfl ?_
  intro pr e s m ag below meth cd s₁ B hml hv
  obtain ⟨rfl, hN, hP, hD, hK, hE⟩ := hv
  have hx := B.exec
  have hb := B.bytes
  have hr := B.returns
  have hts := atoms_spec (ws := wsX0_nearestRung) B.pre
  have hown : s.vm.findClass RX0 = some m.cls := findClass_of_methodNamed B.named
  have hlocks := B.notSynchronized
  have hS : va_S (zA N0) s.heap s.heap [] := va_S.rf
  have hl := lv_entry ([.ref h, .int p]) (n := 4) (Nat.le_of_ble_eq_true rfl)
  rw [lg_entry_eq]
  generalize (lg_sl ([.ref h, .int p]) ++ List.replicate (4 - (lg_sl ([.ref h, .int p])).length) Slot.unset).toArray = ls at hl ⊢
  have hl : lv_has ls 4 [(0, .ref h), (1, .int p)] := hl
  refine lv_aload_n hx hb dX0_nearestRung_0 rfl (lv_at hl 0 rfl) ?_
  refine lv_iload_n hx hb dX0_nearestRung_1 rfl (lv_at hl 1 rfl) ?_
  refine vp_callSi ((va_runV (As := [.int p]) (rest := []) ⟨hx, hb, hml, hown, hts⟩ (c_X0_rungNotAbove l D N0 cA cL E h d z c p hc hp) (cwV 1 hts gX0_nearestRung_X0_rungNotAbove rfl rfl rfl (by decide +kernel) ⟨Nat.le_of_ble_eq_true rfl, Nat.le_of_ble_eq_true rfl⟩) ⟨zPre.blind, va_recv hK hP (ci := 0) (q0 := 0) rfl rfl, zPre.call hN hP hD hK hE hS⟩ rfl rfl hl.1 rfl (lv_room (Nat.le_of_ble_eq_true rfl)) dX0_nearestRung_2 ⟨Nat.zero_le _, Nat.zero_le _⟩).run) (fun r_2 h_2 => ?_)
  have h_2 : r_2 = (zBel c p) := h_2
  subst h_2
  refine lv_istore_n (lv' := [(2, .int (zBel c p)), (0, .ref h), (1, .int p)]) hx hb dX0_nearestRung_5 rfl hl (by decide) rfl (fun ls hl => ?_)
  refine lv_aload_n hx hb dX0_nearestRung_6 rfl (lv_at hl 1 rfl) ?_
  refine lv_iload_n hx hb dX0_nearestRung_7 rfl (lv_at hl 2 rfl) ?_
  refine vp_callSi ((va_runV (As := [.int p]) (rest := []) ⟨hx, hb, hml, hown, hts⟩ (c_X0_rungAbove l D N0 cA cL E h d z c p hc hp) (cwV 1 hts gX0_nearestRung_X0_rungAbove rfl rfl rfl (by decide +kernel) ⟨Nat.le_of_ble_eq_true rfl, Nat.le_of_ble_eq_true rfl⟩) ⟨zPre.blind, va_recv hK hP (ci := 0) (q0 := 0) rfl rfl, zPre.call hN hP hD hK hE hS⟩ rfl rfl hl.1 rfl (lv_room (Nat.le_of_ble_eq_true rfl)) dX0_nearestRung_8 ⟨Nat.zero_le _, Nat.zero_le _⟩).run) (fun r_8 h_8 => ?_)
  have h_8 : r_8 = (zAbo c p) := h_8
  subst h_8
  refine lv_istore_n (lv' := [(3, .int (zAbo c p)), (2, .int (zBel c p)), (0, .ref h), (1, .int p)]) hx hb dX0_nearestRung_11 rfl hl (by decide) rfl (fun ls hl => ?_)
  refine lv_iload_n hx hb dX0_nearestRung_12 rfl (lv_at hl 1 rfl) ?_
  refine lv_iconst (v := (-1)) hx hb dX0_nearestRung_13 (by decide) ?_
  refine lv_icmp_ne (tgt := 19) hx hb dX0_nearestRung_14 (by decide) (fun c_14 => ?_) (fun c_14 => ?_)
  · refine lv_iload_n hx hb dX0_nearestRung_19 rfl (lv_at hl 0 rfl) ?_
    refine lv_iconst (v := (-1)) hx hb dX0_nearestRung_20 (by decide) ?_
    refine lv_icmp_eq (tgt := 33) hx hb dX0_nearestRung_21 (by decide) (fun c_21 => ?_) (fun c_21 => ?_)
    · refine lv_iload_n hx hb dX0_nearestRung_33 rfl (lv_at hl 1 rfl) ?_
      exact W.iret (v := (zBel c p)) hx hb hr (fun t ht hW => ⟨_, rfl, zNear_2 hc hp c_14 c_21, ht⟩) (fun _ h9 => nomatch h9) dX0_nearestRung_34
    · refine lv_iload_n hx hb dX0_nearestRung_24 rfl (lv_at hl 3 rfl) ?_
      refine lv_iload_n hx hb dX0_nearestRung_25 rfl (lv_at hl 1 rfl) ?_
      refine lv_isub hx hb dX0_nearestRung_26 ?_
      refine lv_iload_n hx hb dX0_nearestRung_27 rfl (lv_at hl 0 rfl) ?_
      refine lv_iload_n hx hb dX0_nearestRung_28 rfl (lv_at hl 3 rfl) ?_
      refine lv_isub hx hb dX0_nearestRung_29 ?_
      refine lv_icmp_gt (tgt := 35) hx hb dX0_nearestRung_30 (by decide) (fun c_30 => ?_) (fun c_30 => ?_)
      · refine lv_iload_n hx hb dX0_nearestRung_35 rfl (lv_at hl 0 rfl) ?_
        exact W.iret (v := (zAbo c p)) hx hb hr (fun t ht hW => ⟨_, rfl, (zNear_both hc hp c_14 c_21).1 c_30, ht⟩) (fun _ h9 => nomatch h9) dX0_nearestRung_36
      · refine lv_iload_n hx hb dX0_nearestRung_33 rfl (lv_at hl 1 rfl) ?_
        exact W.iret (v := (zBel c p)) hx hb hr (fun t ht hW => ⟨_, rfl, (zNear_both hc hp c_14 c_21).2 c_30, ht⟩) (fun _ h9 => nomatch h9) dX0_nearestRung_34
  · refine lv_iload_n hx hb dX0_nearestRung_17 rfl (lv_at hl 0 rfl) ?_
    exact W.iret (v := (zAbo c p)) hx hb hr (fun t ht hW => ⟨_, rfl, zNear_1 hc hp c_14, ht⟩) (fun _ h9 => nomatch h9) dX0_nearestRung_18

set_option maxHeartbeats 4000000 in
set_option maxRecDepth 100000 in
theorem c_X0_nextRung (l : Launch) (D : va_G) (N0 : Nat) (cA cL : ClassId) (E : va_W) (h : Nat) (d : Nat → Nat) (z : S7) (c : C5) (r : Int32) (p : Int32) (hc : okC c) (hp : zp p) : Met l yX0_nextRung wsX0_nextRung ({ frames := 5, cells := 0, slots := 0, locals := 113 }) (va_Pc [.ref h, .int r, .int p] (zPre D N0 cA cL (wX h d cA z c ++ E))) (vp_Si (fun rv => rv = zNext c r p)) 0 0 (fun _ => False) := by
  refine Met.ofW (cc := cX0_nextRung) (maxL := 3) (ret := (some .int)) (by decide) rfl ?_
  intro pr e s m ag below meth cd s₁ B hml hv
  obtain ⟨rfl, hN, hP, hD, hK, hE⟩ := hv
  have hx := B.exec
  have hb := B.bytes
  have hr := B.returns
  have hts := atoms_spec (ws := wsX0_nextRung) B.pre
  have hown : s.vm.findClass RX0 = some m.cls := findClass_of_methodNamed B.named
  have hlocks := B.notSynchronized
  have hS : va_S (zA N0) s.heap s.heap [] := va_S.rf
  have hiw : ∀ w ∈ u_ws RX0 TX0 12, w ∈ wsX0_nextRung := by decide +kernel
  have hl := lv_entry ([.ref h, .int r, .int p]) (n := 3) (Nat.le_of_ble_eq_true rfl)
  rw [lg_entry_eq]
  generalize (lg_sl ([.ref h, .int r, .int p]) ++ List.replicate (3 - (lg_sl ([.ref h, .int r, .int p])).length) Slot.unset).toArray = ls at hl ⊢
  have hl : lv_has ls 3 [(0, .ref h), (1, .int r), (2, .int p)] := hl
  refine lv_iload_n hx hb dX0_nextRung_0 rfl (lv_at hl 1 rfl) ?_
  refine lv_iconst (v := (-1)) hx hb dX0_nextRung_1 (by decide) ?_
  refine lv_icmp_eq (tgt := 20) hx hb dX0_nextRung_2 (by decide) (fun c_2 => ?_) (fun c_2 => ?_)
  · refine lv_aload_n hx hb dX0_nextRung_20 rfl (lv_at hl 0 rfl) ?_
    refine lv_iload_n hx hb dX0_nextRung_21 rfl (lv_at hl 2 rfl) ?_
    refine vp_callSi ((va_runV (As := [.int p]) (rest := []) ⟨hx, hb, hml, hown, hts⟩ (c_X0_nearestRung l D N0 cA cL E h d z c p hc hp) (cwV 1 hts gX0_nextRung_X0_nearestRung rfl rfl rfl (by decide +kernel) ⟨Nat.le_of_ble_eq_true rfl, Nat.le_of_ble_eq_true rfl⟩) ⟨zPre.blind, va_recv hK hP (ci := 0) (q0 := 0) rfl rfl, zPre.call hN hP hD hK hE hS⟩ rfl rfl hl.1 rfl (lv_room (Nat.le_of_ble_eq_true rfl)) dX0_nextRung_22 ⟨Nat.zero_le _, Nat.zero_le _⟩).run) (fun r_22 h_22 => ?_)
    have h_22 : r_22 = (zNear c p) := h_22
    subst h_22
    exact W.iret (v := (zNear c p)) hx hb hr (fun t ht hW => ⟨_, rfl, zNext_n (fun q => q.1 c_2), ht⟩) (fun _ h9 => nomatch h9) dX0_nextRung_25
  · refine lv_iload_n hx hb dX0_nextRung_5 rfl (lv_at hl 2 rfl) ?_
    refine lv_iload_n hx hb dX0_nextRung_6 rfl (lv_at hl 1 rfl) ?_
    refine lv_isub hx hb dX0_nextRung_7 ?_
    refine va_mabs hx hb (hml.trans hl.1.symm) hown (hts (.methodLink RX0 120 Lib.Math.abs.name) (by decide +kernel)) (hts (.static Lib.Math.abs.name) (by decide +kernel)) (hts (.initialized "java/lang/Math") (by decide +kernel)) (hts (.code Lib.Math.abs.name Lib.Math.abs.code 1 (some .int)) (by decide +kernel)) (Nat.le_of_ble_eq_true rfl) (Nat.le_of_ble_eq_true rfl) (Nat.zero_le _) (Nat.zero_le _) dX0_nextRung_8 ?_
    rw [show ((if 0 ≤ (p - r) then (p - r) else 0 - (p - r)) : Int32) = (zAbs (p - r)) from rfl]
    refine lv_aload_n hx hb dX0_nextRung_11 rfl (lv_at hl 0 rfl) ?_
    refine va_get (D := D) (ci := 0) (v := .int c.2.2.2.1) (C := RX0) (T := TX0) (N := 12) hx hb hts hiw hown hK hP 0 rfl rfl 10 (by decide) (hts (.fieldLink RX0 41 "TunedWrens" "rungLeash" "I") (by decide +kernel)) (fun _ h9 => h9) rfl dX0_nextRung_12 ?_
    refine lv_icmp_gt (tgt := 20) hx hb dX0_nextRung_15 (by decide) (fun c_15 => ?_) (fun c_15 => ?_)
    · refine lv_aload_n hx hb dX0_nextRung_20 rfl (lv_at hl 0 rfl) ?_
      refine lv_iload_n hx hb dX0_nextRung_21 rfl (lv_at hl 2 rfl) ?_
      refine vp_callSi ((va_runV (As := [.int p]) (rest := []) ⟨hx, hb, hml, hown, hts⟩ (c_X0_nearestRung l D N0 cA cL E h d z c p hc hp) (cwV 1 hts gX0_nextRung_X0_nearestRung rfl rfl rfl (by decide +kernel) ⟨Nat.le_of_ble_eq_true rfl, Nat.le_of_ble_eq_true rfl⟩) ⟨zPre.blind, va_recv hK hP (ci := 0) (q0 := 0) rfl rfl, zPre.call hN hP hD hK hE hS⟩ rfl rfl hl.1 rfl (lv_room (Nat.le_of_ble_eq_true rfl)) dX0_nextRung_22 ⟨Nat.zero_le _, Nat.zero_le _⟩).run) (fun r_22 h_22 => ?_)
      have h_22 : r_22 = (zNear c p) := h_22
      subst h_22
      exact W.iret (v := (zNear c p)) hx hb hr (fun t ht hW => ⟨_, rfl, zNext_n (fun q => Int32.not_le.mpr c_15 q.2), ht⟩) (fun _ h9 => nomatch h9) dX0_nextRung_25
    · refine lv_iload_n hx hb dX0_nextRung_18 rfl (lv_at hl 1 rfl) ?_
      exact W.iret (v := r) hx hb hr (fun t ht hW => ⟨_, rfl, zNext_k ⟨c_2, Int32.not_lt.mp c_15⟩, ht⟩) (fun _ h9 => nomatch h9) dX0_nextRung_19

set_option maxHeartbeats 4000000 in
set_option maxRecDepth 100000 in
theorem c_X0_isLeap (l : Launch) (D : va_G) (N0 : Nat) (cA cL : ClassId) (E : va_W) (h : Nat) (d : Nat → Nat) (z : S7) (c : C5) (r0 : Int32) (r1 : Int32) : Met l yX0_isLeap wsX0_isLeap ({ frames := 1, cells := 0, slots := 0, locals := 21 }) (va_Pc [.ref h, .int r0, .int r1] (zPre D N0 cA cL (wX h d cA z c ++ E))) (vp_Si (fun rv => rv = zb (zLeap c r0 r1))) 0 0 (fun _ => False) := by
  refine Met.ofW (cc := cX0_isLeap) (maxL := 3) (ret := (some .boolean)) (by decide) rfl ?_
  intro pr e s m ag below meth cd s₁ B hml hv
  obtain ⟨rfl, hN, hP, hD, hK, hE⟩ := hv
  have hx := B.exec
  have hb := B.bytes
  have hr := B.returns
  have hts := atoms_spec (ws := wsX0_isLeap) B.pre
  have hown : s.vm.findClass RX0 = some m.cls := findClass_of_methodNamed B.named
  have hlocks := B.notSynchronized
  have hS : va_S (zA N0) s.heap s.heap [] := va_S.rf
  have hiw : ∀ w ∈ u_ws RX0 TX0 12, w ∈ wsX0_isLeap := by decide +kernel
  have hl := lv_entry ([.ref h, .int r0, .int r1]) (n := 3) (Nat.le_of_ble_eq_true rfl)
  rw [lg_entry_eq]
  generalize (lg_sl ([.ref h, .int r0, .int r1]) ++ List.replicate (3 - (lg_sl ([.ref h, .int r0, .int r1])).length) Slot.unset).toArray = ls at hl ⊢
  have hl : lv_has ls 3 [(0, .ref h), (1, .int r0), (2, .int r1)] := hl
  refine lv_iload_n hx hb dX0_isLeap_0 rfl (lv_at hl 1 rfl) ?_
  refine lv_iload_n hx hb dX0_isLeap_1 rfl (lv_at hl 2 rfl) ?_
  refine vp_callSi ((va_runS (As := [.int r0, .int r1]) (rest := []) ⟨hx, hb, hml, hown, hts⟩ (c_X0_isChange l r0 r1) (va_cwS 2 hts gX0_isLeap_X0_isChange rfl rfl rfl (by decide +kernel) ⟨Nat.le_of_ble_eq_true rfl, Nat.le_of_ble_eq_true rfl⟩) ⟨zT.blind, zT.call⟩ rfl rfl hl.1 rfl (lv_room (Nat.le_of_ble_eq_true rfl)) dX0_isLeap_2 ⟨Nat.zero_le _, Nat.zero_le _⟩).run) (fun r_2 h_2 => ?_)
  have h_2 : r_2 = (zb (zChg r0 r1)) := h_2
  subst h_2
  refine lv_if_eq (tgt := 25) hx hb dX0_isLeap_5 (by decide) (fun c_5 => ?_) (fun c_5 => ?_)
  · refine lv_iconst (v := 0) hx hb dX0_isLeap_25 (by decide) ?_
    exact W.zret (v := 0) hx hb hr rfl (fun t ht hW => ⟨_, rfl, (zb_0 (fun q => zb_f c_5 q.1)).symm, ht⟩) (fun _ h9 => nomatch h9) dX0_isLeap_26
  · refine lv_iload_n hx hb dX0_isLeap_8 rfl (lv_at hl 2 rfl) ?_
    refine lv_iload_n hx hb dX0_isLeap_9 rfl (lv_at hl 1 rfl) ?_
    refine lv_isub hx hb dX0_isLeap_10 ?_
    refine va_mabs hx hb (hml.trans hl.1.symm) hown (hts (.methodLink RX0 120 Lib.Math.abs.name) (by decide +kernel)) (hts (.static Lib.Math.abs.name) (by decide +kernel)) (hts (.initialized "java/lang/Math") (by decide +kernel)) (hts (.code Lib.Math.abs.name Lib.Math.abs.code 1 (some .int)) (by decide +kernel)) (Nat.le_of_ble_eq_true rfl) (Nat.le_of_ble_eq_true rfl) (Nat.zero_le _) (Nat.zero_le _) dX0_isLeap_11 ?_
    rw [show ((if 0 ≤ (r1 - r0) then (r1 - r0) else 0 - (r1 - r0)) : Int32) = (zAbs (r1 - r0)) from rfl]
    refine lv_aload_n hx hb dX0_isLeap_14 rfl (lv_at hl 0 rfl) ?_
    refine va_get (D := D) (ci := 0) (v := .int c.2.2.2.2) (C := RX0) (T := TX0) (N := 12) hx hb hts hiw hown hK hP 0 rfl rfl 11 (by decide) (hts (.fieldLink RX0 44 "TunedWrens" "leapGlide" "I") (by decide +kernel)) (fun _ h9 => h9) rfl dX0_isLeap_15 ?_
    refine lv_icmp_le (tgt := 25) hx hb dX0_isLeap_18 (by decide) (fun c_18 => ?_) (fun c_18 => ?_)
    · refine lv_iconst (v := 0) hx hb dX0_isLeap_25 (by decide) ?_
      exact W.zret (v := 0) hx hb hr rfl (fun t ht hW => ⟨_, rfl, (zb_0 (fun q => Int32.not_lt.mpr c_18 q.2)).symm, ht⟩) (fun _ h9 => nomatch h9) dX0_isLeap_26
    · refine lv_iconst (v := 1) hx hb dX0_isLeap_21 (by decide) ?_
      refine lv_goto (tgt := 26) hx hb dX0_isLeap_22 (by decide) ?_
      exact W.zret (v := 1) hx hb hr rfl (fun t ht hW => ⟨_, rfl, (zb_1 ⟨zb_t c_5, Int32.not_le.mp c_18⟩).symm, ht⟩) (fun _ h9 => nomatch h9) dX0_isLeap_26

set_option maxHeartbeats 4000000 in
set_option maxRecDepth 100000 in
theorem c_X0_nudgeTowards (l : Launch) (D : va_G) (N0 : Nat) (cA cL : ClassId) (E : va_W) (h : Nat) (d : Nat → Nat) (z : S7) (c : C5) (n : Int32) (due : Int32) : Met l yX0_nudgeTowards wsX0_nudgeTowards ({ frames := 1, cells := 0, slots := 0, locals := 21 }) (va_Pc [.ref h, .int n, .int due] (zPre D N0 cA cL (wX h d cA z c ++ E))) (vp_Si (fun rv => rv = zTow c.2.2.1 n due)) 0 0 (fun _ => False) := by
  refine Met.ofW (cc := cX0_nudgeTowards) (maxL := 5) (ret := (some .int)) (by decide) rfl ?_
  intro pr e s m ag below meth cd s₁ B hml hv
  obtain ⟨rfl, hN, hP, hD, hK, hE⟩ := hv
  have hx := B.exec
  have hb := B.bytes
  have hr := B.returns
  have hts := atoms_spec (ws := wsX0_nudgeTowards) B.pre
  have hown : s.vm.findClass RX0 = some m.cls := findClass_of_methodNamed B.named
  have hlocks := B.notSynchronized
  have hS : va_S (zA N0) s.heap s.heap [] := va_S.rf
  have hiw : ∀ w ∈ u_ws RX0 TX0 12, w ∈ wsX0_nudgeTowards := by decide +kernel
  have hl := lv_entry ([.ref h, .int n, .int due]) (n := 5) (Nat.le_of_ble_eq_true rfl)
  rw [lg_entry_eq]
  generalize (lg_sl ([.ref h, .int n, .int due]) ++ List.replicate (5 - (lg_sl ([.ref h, .int n, .int due])).length) Slot.unset).toArray = ls at hl ⊢
  have hl : lv_has ls 5 [(0, .ref h), (1, .int n), (2, .int due)] := hl
  refine lv_iload_n hx hb dX0_nudgeTowards_0 rfl (lv_at hl 2 rfl) ?_
  refine lv_iload_n hx hb dX0_nudgeTowards_1 rfl (lv_at hl 1 rfl) ?_
  refine lv_isub hx hb dX0_nudgeTowards_2 ?_
  refine lv_istore_n (lv' := [(3, .int (due - n)), (0, .ref h), (1, .int n), (2, .int due)]) hx hb dX0_nudgeTowards_3 rfl hl (by decide) rfl (fun ls hl => ?_)
  refine lv_iload_n hx hb dX0_nudgeTowards_4 rfl (lv_at hl 0 rfl) ?_
  refine lv_aload_n hx hb dX0_nudgeTowards_5 rfl (lv_at hl 1 rfl) ?_
  refine va_get (D := D) (ci := 0) (v := .int c.2.2.1) (C := RX0) (T := TX0) (N := 12) hx hb hts hiw hown hK hP 0 rfl rfl 9 (by decide) (hts (.fieldLink RX0 38 "TunedWrens" "nudgeSpeed" "I") (by decide +kernel)) (fun _ h9 => h9) rfl dX0_nudgeTowards_6 ?_
  refine lv_imul hx hb dX0_nudgeTowards_9 ?_
  refine lv_bipush (v := 100) hx hb dX0_nudgeTowards_10 (by decide) ?_
  refine lv_idiv hx hb dX0_nudgeTowards_12 (by decide) ?_
  refine lv_istore (lv' := [(4, .int (((due - n) * c.2.2.1) / 100)), (3, .int (due - n)), (0, .ref h), (1, .int n), (2, .int due)]) hx hb dX0_nudgeTowards_13 hl (by decide) rfl (fun ls hl => ?_)
  refine lv_iload hx hb dX0_nudgeTowards_15 (lv_at hl 0 rfl) ?_
  refine lv_if_ne (tgt := 38) hx hb dX0_nudgeTowards_17 (by decide) (fun c_17 => ?_) (fun c_17 => ?_)
  · refine lv_iload_n hx hb dX0_nudgeTowards_38 rfl (lv_at hl 3 rfl) ?_
    refine lv_iload hx hb dX0_nudgeTowards_39 (lv_at hl 0 rfl) ?_
    refine lv_iadd hx hb dX0_nudgeTowards_41 ?_
    exact W.iret (v := (n + (((due - n) * c.2.2.1) / 100))) hx hb hr (fun t ht hW => ⟨_, rfl, zTow_1 c_17, ht⟩) (fun _ h9 => nomatch h9) dX0_nudgeTowards_42
  · refine lv_aload_n hx hb dX0_nudgeTowards_20 rfl (lv_at hl 2 rfl) ?_
    refine va_get (D := D) (ci := 0) (v := .int c.2.2.1) (C := RX0) (T := TX0) (N := 12) hx hb hts hiw hown hK hP 0 rfl rfl 9 (by decide) (hts (.fieldLink RX0 38 "TunedWrens" "nudgeSpeed" "I") (by decide +kernel)) (fun _ h9 => h9) rfl dX0_nudgeTowards_21 ?_
    refine lv_if_eq (tgt := 38) hx hb dX0_nudgeTowards_24 (by decide) (fun c_24 => ?_) (fun c_24 => ?_)
    · refine lv_iload_n hx hb dX0_nudgeTowards_38 rfl (lv_at hl 3 rfl) ?_
      refine lv_iload hx hb dX0_nudgeTowards_39 (lv_at hl 0 rfl) ?_
      refine lv_iadd hx hb dX0_nudgeTowards_41 ?_
      exact W.iret (v := (n + (((due - n) * c.2.2.1) / 100))) hx hb hr (fun t ht hW => ⟨_, rfl, zTow_2 c_24, ht⟩) (fun _ h9 => nomatch h9) dX0_nudgeTowards_42
    · refine lv_iconst (v := (-1)) hx hb dX0_nudgeTowards_27 (by decide) ?_
      refine lv_iload_n hx hb dX0_nudgeTowards_28 rfl (lv_at hl 1 rfl) ?_
      refine lv_iconst (v := 1) hx hb dX0_nudgeTowards_29 (by decide) ?_
      refine va_mmin hx hb (hml.trans hl.1.symm) hown (hts (.methodLink RX0 123 Lib.Math.min.name) (by decide +kernel)) (hts (.static Lib.Math.min.name) (by decide +kernel)) (hts (.initialized "java/lang/Math") (by decide +kernel)) (hts (.code Lib.Math.min.name Lib.Math.min.code 2 (some .int)) (by decide +kernel)) (Nat.le_of_ble_eq_true rfl) (Nat.le_of_ble_eq_true rfl) (Nat.zero_le _) (Nat.zero_le _) dX0_nudgeTowards_30 ?_
      refine va_mmax hx hb (hml.trans hl.1.symm) hown (hts (.methodLink RX0 126 Lib.Math.max.name) (by decide +kernel)) (hts (.static Lib.Math.max.name) (by decide +kernel)) (hts (.initialized "java/lang/Math") (by decide +kernel)) (hts (.code Lib.Math.max.name Lib.Math.max.code 2 (some .int)) (by decide +kernel)) (Nat.le_of_ble_eq_true rfl) (Nat.le_of_ble_eq_true rfl) (Nat.zero_le _) (Nat.zero_le _) dX0_nudgeTowards_33 ?_
      refine lv_istore (lv' := [(4, .int (if (-1) < (if 1 < (due - n) then 1 else (due - n)) then (if 1 < (due - n) then 1 else (due - n)) else (-1))), (3, .int (due - n)), (0, .ref h), (1, .int n), (2, .int due)]) hx hb dX0_nudgeTowards_36 hl (by decide) rfl (fun ls hl => ?_)
      refine lv_iload_n hx hb dX0_nudgeTowards_38 rfl (lv_at hl 3 rfl) ?_
      refine lv_iload hx hb dX0_nudgeTowards_39 (lv_at hl 0 rfl) ?_
      refine lv_iadd hx hb dX0_nudgeTowards_41 ?_
      exact W.iret (v := (n + (if (-1) < (if 1 < (due - n) then 1 else (due - n)) then (if 1 < (due - n) then 1 else (due - n)) else (-1)))) hx hb hr (fun t ht hW => ⟨_, rfl, zTow_3 c_17 c_24, ht⟩) (fun _ h9 => nomatch h9) dX0_nudgeTowards_42

set_option maxHeartbeats 4000000 in
set_option maxRecDepth 100000 in
theorem c_X0_nextNudge (l : Launch) (D : va_G) (N0 : Nat) (cA cL : ClassId) (E : va_W) (h : Nat) (d : Nat → Nat) (z : S7) (c : C5) (w : Int32) (r : Int32) (p : Int32) (hw : zw w) : Met l yX0_nextNudge wsX0_nextNudge ({ frames := 2, cells := 0, slots := 0, locals := 45 }) (va_Pc [.ref h, .int w, .int r, .int p] (zPre D N0 cA cL (wX h d cA z c ++ E))) (vp_Si (fun rv => rv = zNud c (z.1 w.toNatClampNeg) (z.2.1 w.toNatClampNeg) r p)) 0 0 (fun _ => False) := by
  refine Met.ofW (cc := cX0_nextNudge) (maxL := 4) (ret := (some .int)) (by decide) rfl ?_
  intro pr e s m ag below meth cd s₁ B hml hv
  obtain ⟨rfl, hN, hP, hD, hK, hE⟩ := hv
  have hx := B.exec
  have hb := B.bytes
  have hr := B.returns
  have hts := atoms_spec (ws := wsX0_nextNudge) B.pre
  have hown : s.vm.findClass RX0 = some m.cls := findClass_of_methodNamed B.named
  have hlocks := B.notSynchronized
  have hS : va_S (zA N0) s.heap s.heap [] := va_S.rf
  have hiw : ∀ w ∈ u_ws RX0 TX0 12, w ∈ wsX0_nextNudge := by decide +kernel
  have hl := lv_entry ([.ref h, .int w, .int r, .int p]) (n := 4) (Nat.le_of_ble_eq_true rfl)
  rw [lg_entry_eq]
  generalize (lg_sl ([.ref h, .int w, .int r, .int p]) ++ List.replicate (4 - (lg_sl ([.ref h, .int w, .int r, .int p])).length) Slot.unset).toArray = ls at hl ⊢
  have hl : lv_has ls 4 [(0, .ref h), (1, .int w), (2, .int r), (3, .int p)] := hl
  refine lv_aload_n hx hb dX0_nextNudge_0 rfl (lv_at hl 0 rfl) ?_
  refine lv_aload_n hx hb dX0_nextNudge_1 rfl (lv_at hl 0 rfl) ?_
  refine va_get (D := D) (ci := 0) (v := .ref (d 0)) (C := RX0) (T := TX0) (N := 12) hx hb hts hiw hown hK hP 0 rfl rfl 0 (by decide) (hts (.fieldLink RX0 9 "TunedWrens" "rungOfWren" "[I") (by decide +kernel)) (fun _ h9 => h9) rfl dX0_nextNudge_2 ?_
  refine lv_iload_n hx hb dX0_nextNudge_5 rfl (lv_at hl 1 rfl) ?_
  refine va_iald hx hb hK hP 1 0 rfl rfl (zw_in hw) dX0_nextNudge_6 ?_
  refine lv_iload_n hx hb dX0_nextNudge_7 rfl (lv_at hl 2 rfl) ?_
  refine vp_callSi ((va_runV (As := [.int (z.1 w.toNatClampNeg), .int r]) (rest := []) ⟨hx, hb, hml, hown, hts⟩ (c_X0_isLeap l D N0 cA cL E h d z c (z.1 w.toNatClampNeg) r) (cwV 2 hts gX0_nextNudge_X0_isLeap rfl rfl rfl (by decide +kernel) ⟨Nat.le_of_ble_eq_true rfl, Nat.le_of_ble_eq_true rfl⟩) ⟨zPre.blind, va_recv hK hP (ci := 0) (q0 := 0) rfl rfl, zPre.call hN hP hD hK hE hS⟩ rfl rfl hl.1 rfl (lv_room (Nat.le_of_ble_eq_true rfl)) dX0_nextNudge_8 ⟨Nat.zero_le _, Nat.zero_le _⟩).run) (fun r_8 h_8 => ?_)
  have h_8 : r_8 = (zb (zLeap c (z.1 w.toNatClampNeg) r)) := h_8
  subst h_8
  refine lv_if_eq (tgt := 16) hx hb dX0_nextNudge_11 (by decide) (fun c_11 => ?_) (fun c_11 => ?_)
  · refine lv_aload_n hx hb dX0_nextNudge_16 rfl (lv_at hl 0 rfl) ?_
    refine lv_aload_n hx hb dX0_nextNudge_17 rfl (lv_at hl 0 rfl) ?_
    refine va_get (D := D) (ci := 0) (v := .ref (d 1)) (C := RX0) (T := TX0) (N := 12) hx hb hts hiw hown hK hP 0 rfl rfl 1 (by decide) (hts (.fieldLink RX0 13 "TunedWrens" "nudgeOfWren" "[I") (by decide +kernel)) (fun _ h9 => h9) rfl dX0_nextNudge_18 ?_
    refine lv_iload_n hx hb dX0_nextNudge_21 rfl (lv_at hl 1 rfl) ?_
    refine va_iald hx hb hK hP 2 0 rfl rfl (zw_in hw) dX0_nextNudge_22 ?_
    refine lv_iload_n hx hb dX0_nextNudge_23 rfl (lv_at hl 2 rfl) ?_
    refine lv_iload_n hx hb dX0_nextNudge_24 rfl (lv_at hl 3 rfl) ?_
    refine lv_isub hx hb dX0_nextNudge_25 ?_
    refine vp_callSi ((va_runV (As := [.int (z.2.1 w.toNatClampNeg), .int (r - p)]) (rest := []) ⟨hx, hb, hml, hown, hts⟩ (c_X0_nudgeTowards l D N0 cA cL E h d z c (z.2.1 w.toNatClampNeg) (r - p)) (cwV 2 hts gX0_nextNudge_X0_nudgeTowards rfl rfl rfl (by decide +kernel) ⟨Nat.le_of_ble_eq_true rfl, Nat.le_of_ble_eq_true rfl⟩) ⟨zPre.blind, va_recv hK hP (ci := 0) (q0 := 0) rfl rfl, zPre.call hN hP hD hK hE hS⟩ rfl rfl hl.1 rfl (lv_room (Nat.le_of_ble_eq_true rfl)) dX0_nextNudge_26 ⟨Nat.zero_le _, Nat.zero_le _⟩).run) (fun r_26 h_26 => ?_)
    have h_26 : r_26 = (zTow c.2.2.1 (z.2.1 w.toNatClampNeg) (r - p)) := h_26
    subst h_26
    exact W.iret (v := (zTow c.2.2.1 (z.2.1 w.toNatClampNeg) (r - p))) hx hb hr (fun t ht hW => ⟨_, rfl, zNud_n (zb_f c_11), ht⟩) (fun _ h9 => nomatch h9) dX0_nextNudge_29
  · refine lv_iconst (v := 0) hx hb dX0_nextNudge_14 (by decide) ?_
    exact W.iret (v := 0) hx hb hr (fun t ht hW => ⟨_, rfl, zNud_l (zb_t c_11), ht⟩) (fun _ h9 => nomatch h9) dX0_nextNudge_15

set_option maxHeartbeats 4000000 in
set_option maxRecDepth 100000 in
theorem c_X0_framesWithin (l : Launch) (D : va_G) (N0 : Nat) (cA cL : ClassId) (E : va_W) (h : Nat) (d : Nat → Nat) (z : S7) (c : C5) (ky md : Nat) (hk : ky < 12) (hm : md < 8) : Met l yX0_framesWithin wsX0_framesWithin ({ frames := 2, cells := 0, slots := 0, locals := 47 }) (va_Pc [.ref h, .int (nI ky), .int (nI md)] (zPre D N0 cA cL (wX h d cA z c ++ E))) (vp_Si (fun rv => rv = zW md ky z.2.2.2.2.2.2)) 0 0 (fun _ => False) := by
  refine Met.ofW (cc := cX0_framesWithin) (maxL := 5) (ret := (some .int)) (by decide) rfl ?_
  intro pr e s m ag below meth cd s₁ B hml hv
  obtain ⟨rfl, hN, hP, hD, hK, hE⟩ := hv
  have hx := B.exec
  have hb := B.bytes
  have hr := B.returns
  have hts := atoms_spec (ws := wsX0_framesWithin) B.pre
  have hown : s.vm.findClass RX0 = some m.cls := findClass_of_methodNamed B.named
  have hlocks := B.notSynchronized
  have hS : va_S (zA N0) s.heap s.heap [] := va_S.rf
  have hiw : ∀ w ∈ u_ws RX0 TX0 12, w ∈ wsX0_framesWithin := by decide +kernel
  have hl := lv_entry ([.ref h, .int (nI ky), .int (nI md)]) (n := 5) (Nat.le_of_ble_eq_true rfl)
  rw [lg_entry_eq]
  generalize (lg_sl ([.ref h, .int (nI ky), .int (nI md)]) ++ List.replicate (5 - (lg_sl ([.ref h, .int (nI ky), .int (nI md)])).length) Slot.unset).toArray = ls at hl ⊢
  have hl : lv_has ls 5 [(0, .ref h), (1, .int (nI ky)), (2, .int (nI md))] := hl
  have loop : ∀ (n : Nat) (i : Nat), i ≤ 12 → 13 ≤ i + n → ∀ (ls : Array Slot), lv_has ls 5 [(3, .int (zWn md ky z.2.2.2.2.2.2 i)), (4, .int (nI i)), (0, .ref h), (1, .int (nI ky)), (2, .int (nI md))] → W pr l e (headSpec wsX0_framesWithin ({ frames := 2, cells := 0, slots := 0, locals := 47 })).room s m ([.ref h, .int (nI ky), .int (nI md)] : List Value).toArray below meth cd s.heap [] 0 0 (MQ below (vp_Si (fun rv => rv = zW md ky z.2.2.2.2.2.2)) ([.ref h, .int (nI ky), .int (nI md)] : List Value).toArray s 0 0 (fun _ => False)) (F0 m 5 ls []) := by
    intro n
    induction n with
    | zero =>
      intro i hi hn
      omega
    | succ n ih =>
      intro i hi hn ls hl
      refine lv_iload hx hb dX0_framesWithin_5 (lv_at hl 1 rfl) ?_
      refine lv_bipush (v := 12) hx hb dX0_framesWithin_7 (by decide) ?_
      refine lv_icmp_ge (tgt := 40) hx hb dX0_framesWithin_9 (by decide) (fun c_9 => ?_) (fun c_9 => ?_)
      · have hi12 : i = 12 := by have := (nI_leI (a := 12) (by decide) (by omega)).mp c_9; omega
        subst hi12
        refine lv_iload_n hx hb dX0_framesWithin_40 rfl (lv_at hl 0 rfl) ?_
        exact W.iret (v := (zWn md ky z.2.2.2.2.2.2 12)) hx hb hr (fun t ht hW => ⟨_, rfl, rfl, ht⟩) (fun _ h9 => nomatch h9) dX0_framesWithin_41
      · have hi12 : i < 12 := by
          rcases Nat.lt_or_ge i 12 with q | q
          · exact q
          · exact absurd ((nI_leI (a := 12) (by decide) (by omega)).mpr q) c_9
        refine lv_iload hx hb dX0_framesWithin_12 (lv_at hl 1 rfl) ?_
        refine lv_iload_n hx hb dX0_framesWithin_14 rfl (lv_at hl 3 rfl) ?_
        refine lv_isub hx hb dX0_framesWithin_15 ?_
        refine lv_iload_n hx hb dX0_framesWithin_16 rfl (lv_at hl 4 rfl) ?_
        refine vp_callSi ((va_runS (As := [.int ((nI i) - (nI ky)), .int (nI md)]) (rest := []) ⟨hx, hb, hml, hown, hts⟩ (c_X0_stepAbove l N0 ((nI i) - (nI ky)) md hm) (va_cwS 2 hts gX0_framesWithin_X0_stepAbove rfl rfl rfl (by decide +kernel) ⟨Nat.le_of_ble_eq_true rfl, Nat.le_of_ble_eq_true rfl⟩) ⟨zPe.blind, zPe.call hN hE hS⟩ rfl rfl hl.1 rfl (lv_room (Nat.le_of_ble_eq_true rfl)) dX0_framesWithin_17 ⟨Nat.zero_le _, Nat.zero_le _⟩).run) (fun r_17 h_17 => ?_)
        have h_17 : r_17 = (zSt md (((nI i) - (nI ky)).toInt % 12).toNat) := h_17
        subst h_17
        rw [show ((zSt md (((nI i) - (nI ky)).toInt % 12).toNat) : Int32) = (zSt md ((i + 12 - ky) % 12)) from (by rw [zW_ix hi12 hk])]
        refine lv_iconst (v := (-1)) hx hb dX0_framesWithin_20 (by decide) ?_
        refine lv_icmp_eq (tgt := 34) hx hb dX0_framesWithin_21 (by decide) (fun c_21 => ?_) (fun c_21 => ?_)
        · refine lv_iinc (v := (nI (i + 1))) (lv' := [(4, .int (nI (i + 1))), (3, .int (zWn md ky z.2.2.2.2.2.2 i)), (0, .ref h), (1, .int (nI ky)), (2, .int (nI md))]) hx hb dX0_framesWithin_34 hl (k := 1) rfl (z_inc i 1) (by decide) rfl (fun ls hl => ?_)
          refine lv_goto (tgt := 5) hx hb dX0_framesWithin_37 (by decide) ?_
          have hl : lv_has ls 5 [(4, .int (nI (i + 1))), (3, .int (zWn md ky z.2.2.2.2.2.2 (i + 1))), (0, .ref h), (1, .int (nI ky)), (2, .int (nI md))] := by
            rw [show ((zWn md ky z.2.2.2.2.2.2 (i + 1)) : Int32) = (zWn md ky z.2.2.2.2.2.2 i) from (zWn_0 ((zSt_neg md hm _ (Nat.mod_lt _ (by decide))).mpr c_21))]
            exact hl
          exact ih (i + 1) (by omega) (by omega) ls (lv_sub hl [1, 0, 2, 3, 4] rfl)
        · refine lv_iload_n hx hb dX0_framesWithin_24 rfl (lv_at hl 0 rfl) ?_
          refine lv_aload_n hx hb dX0_framesWithin_25 rfl (lv_at hl 2 rfl) ?_
          refine va_get (D := D) (ci := 0) (v := .ref (d 6)) (C := RX0) (T := TX0) (N := 12) hx hb hts hiw hown hK hP 0 rfl rfl 6 (by decide) (hts (.fieldLink RX0 28 "TunedWrens" "framesOfSemitone" "[I") (by decide +kernel)) (fun _ h9 => h9) rfl dX0_framesWithin_26 ?_
          refine lv_iload hx hb dX0_framesWithin_29 (lv_at hl 1 rfl) ?_
          refine va_iald hx hb hK hP 7 0 rfl rfl (vp_in_nI hi12 (by decide)) dX0_framesWithin_31 ?_
          refine lv_iadd hx hb dX0_framesWithin_32 ?_
          refine lv_istore_n (lv' := [(3, .int ((zWn md ky z.2.2.2.2.2.2 i) + (z.2.2.2.2.2.2 (nI i).toNatClampNeg))), (4, .int (nI i)), (0, .ref h), (1, .int (nI ky)), (2, .int (nI md))]) hx hb dX0_framesWithin_33 rfl hl (by decide) rfl (fun ls hl => ?_)
          refine lv_iinc (v := (nI (i + 1))) (lv' := [(4, .int (nI (i + 1))), (3, .int ((zWn md ky z.2.2.2.2.2.2 i) + (z.2.2.2.2.2.2 (nI i).toNatClampNeg))), (0, .ref h), (1, .int (nI ky)), (2, .int (nI md))]) hx hb dX0_framesWithin_34 hl (k := 1) rfl (z_inc i 1) (by decide) rfl (fun ls hl => ?_)
          refine lv_goto (tgt := 5) hx hb dX0_framesWithin_37 (by decide) ?_
          have hl : lv_has ls 5 [(4, .int (nI (i + 1))), (3, .int (zWn md ky z.2.2.2.2.2.2 (i + 1))), (0, .ref h), (1, .int (nI ky)), (2, .int (nI md))] := by
            rw [show ((zWn md ky z.2.2.2.2.2.2 (i + 1)) : Int32) = ((zWn md ky z.2.2.2.2.2.2 i) + (z.2.2.2.2.2.2 (nI i).toNatClampNeg)) from (by rw [nI_clamp (by omega)]; exact zWn_1 (fun q => c_21 ((zSt_neg md hm _ (Nat.mod_lt _ (by decide))).mp q)))]
            exact hl
          exact ih (i + 1) (by omega) (by omega) ls (lv_sub hl [1, 0, 2, 3, 4] rfl)
  refine lv_iconst (v := 0) hx hb dX0_framesWithin_0 (by decide) ?_
  refine lv_istore_n (lv' := [(3, .int 0), (0, .ref h), (1, .int (nI ky)), (2, .int (nI md))]) hx hb dX0_framesWithin_1 rfl hl (by decide) rfl (fun ls hl => ?_)
  refine lv_iconst (v := 0) hx hb dX0_framesWithin_2 (by decide) ?_
  refine lv_istore (lv' := [(4, .int 0), (3, .int 0), (0, .ref h), (1, .int (nI ky)), (2, .int (nI md))]) hx hb dX0_framesWithin_3 hl (by decide) rfl (fun ls hl => ?_)
  exact loop 13 0 (by decide) (by decide) ls (lv_sub hl [1, 0, 2, 3, 4] rfl)

set_option maxHeartbeats 4000000 in
set_option maxRecDepth 100000 in
theorem c_X0_rungs (l : Launch) (D : va_G) (N0 : Nat) (cA cL : ClassId) (E : va_W) (h : Nat) (d : Nat → Nat) (z : S7) (c : C5) (hc : okC c) : Met l yX0_rungs wsX0_rungs ({ frames := 4, cells := 0, slots := 0, locals := 89 }) (va_Pc [.ref h] (zPre D N0 cA cL (wX h d cA z c ++ E))) (vp_Si (fun rv => rv = zRc c)) 0 0 (fun _ => False) := by
  refine Met.ofW (cc := cX0_rungs) (maxL := 3) (ret := (some .int)) (by decide) rfl ?_
  intro pr e s m ag below meth cd s₁ B hml hv
  obtain ⟨rfl, hN, hP, hD, hK, hE⟩ := hv
  have hx := B.exec
  have hb := B.bytes
  have hr := B.returns
  have hts := atoms_spec (ws := wsX0_rungs) B.pre
  have hown : s.vm.findClass RX0 = some m.cls := findClass_of_methodNamed B.named
  have hlocks := B.notSynchronized
  have hS : va_S (zA N0) s.heap s.heap [] := va_S.rf
  have hl := lv_entry ([.ref h]) (n := 3) (Nat.le_of_ble_eq_true rfl)
  rw [lg_entry_eq]
  generalize (lg_sl ([.ref h]) ++ List.replicate (3 - (lg_sl ([.ref h])).length) Slot.unset).toArray = ls at hl ⊢
  have hl : lv_has ls 3 [(0, .ref h)] := hl
  have loop : ∀ (n : Nat) (k : Nat), k ≤ 121 → 122 ≤ k + n → ∀ (ls : Array Slot), lv_has ls 3 [(1, .int (zRcn c k)), (2, .int (nI (100 * k))), (0, .ref h)] → W pr l e (headSpec wsX0_rungs ({ frames := 4, cells := 0, slots := 0, locals := 89 })).room s m ([.ref h] : List Value).toArray below meth cd s.heap [] 0 0 (MQ below (vp_Si (fun rv => rv = zRc c)) ([.ref h] : List Value).toArray s 0 0 (fun _ => False)) (F0 m 4 ls []) := by
    intro n
    induction n with
    | zero =>
      intro k hk hn
      omega
    | succ n ih =>
      intro k hk hn ls hl
      refine lv_iload_n hx hb dX0_rungs_4 rfl (lv_at hl 1 rfl) ?_
      refine lv_sipush (v := 12000) hx hb dX0_rungs_5 (by decide) ?_
      refine lv_icmp_gt (tgt := 28) hx hb dX0_rungs_8 (by decide) (fun c_8 => ?_) (fun c_8 => ?_)
      · have hk1 : k = 121 := by have := (nI_ltI (a := 12000) (by decide) (by omega)).mp c_8; omega
        subst hk1
        refine lv_iload_n hx hb dX0_rungs_28 rfl (lv_at hl 0 rfl) ?_
        exact W.iret (v := (zRcn c 121)) hx hb hr (fun t ht hW => ⟨_, rfl, rfl, ht⟩) (fun _ h9 => nomatch h9) dX0_rungs_29
      · have hk1 : k < 121 := by
          rcases Nat.lt_or_ge k 121 with q | q
          · exact q
          · exact absurd ((nI_ltI (a := 12000) (by decide) (by omega)).mpr (by omega)) c_8
        refine lv_aload_n hx hb dX0_rungs_11 rfl (lv_at hl 2 rfl) ?_
        refine lv_iload_n hx hb dX0_rungs_12 rfl (lv_at hl 1 rfl) ?_
        refine vp_callSi ((va_runV (As := [.int (nI (100 * k))]) (rest := []) ⟨hx, hb, hml, hown, hts⟩ (c_X0_isRung l D N0 cA cL E h d z c (nI (100 * k)) hc) (cwV 1 hts gX0_rungs_X0_isRung rfl rfl rfl (by decide +kernel) ⟨Nat.le_of_ble_eq_true rfl, Nat.le_of_ble_eq_true rfl⟩) ⟨zPre.blind, va_recv hK hP (ci := 0) (q0 := 0) rfl rfl, zPre.call hN hP hD hK hE hS⟩ rfl rfl hl.1 rfl (lv_room (Nat.le_of_ble_eq_true rfl)) dX0_rungs_13 ⟨Nat.zero_le _, Nat.zero_le _⟩).run) (fun r_13 h_13 => ?_)
        have h_13 : r_13 = (zb (¬ zStep c (nI (100 * k)) = -1)) := h_13
        subst h_13
        refine lv_if_eq (tgt := 22) hx hb dX0_rungs_16 (by decide) (fun c_16 => ?_) (fun c_16 => ?_)
        · refine lv_iinc (v := (nI (100 * (k + 1)))) (lv' := [(2, .int (nI (100 * (k + 1)))), (1, .int (zRcn c k)), (0, .ref h)]) hx hb dX0_rungs_22 hl (k := 1) rfl (z_inc (100 * k) 100) (by decide) rfl (fun ls hl => ?_)
          refine lv_goto (tgt := 4) hx hb dX0_rungs_25 (by decide) ?_
          have hl : lv_has ls 3 [(2, .int (nI (100 * (k + 1)))), (1, .int (zRcn c (k + 1))), (0, .ref h)] := by
            rw [show ((zRcn c (k + 1)) : Int32) = (zRcn c k) from (zRcn_0 ((zStep_neg hc _).mpr (Decidable.not_not.mp (zb_f c_16))))]
            exact hl
          exact ih (k + 1) (by omega) (by omega) ls (lv_sub hl [1, 0, 2] rfl)
        · refine lv_iinc (v := ((zRcn c k) + 1)) (lv' := [(1, .int ((zRcn c k) + 1)), (2, .int (nI (100 * k))), (0, .ref h)]) hx hb dX0_rungs_19 hl (k := 0) rfl rfl (by decide) rfl (fun ls hl => ?_)
          refine lv_iinc (v := (nI (100 * (k + 1)))) (lv' := [(2, .int (nI (100 * (k + 1)))), (1, .int ((zRcn c k) + 1)), (0, .ref h)]) hx hb dX0_rungs_22 hl (k := 1) rfl (z_inc (100 * k) 100) (by decide) rfl (fun ls hl => ?_)
          refine lv_goto (tgt := 4) hx hb dX0_rungs_25 (by decide) ?_
          have hl : lv_has ls 3 [(2, .int (nI (100 * (k + 1)))), (1, .int (zRcn c (k + 1))), (0, .ref h)] := by
            rw [show ((zRcn c (k + 1)) : Int32) = ((zRcn c k) + 1) from (zRcn_1 (fun q => zb_t c_16 ((zStep_neg hc _).mp q)))]
            exact hl
          exact ih (k + 1) (by omega) (by omega) ls (lv_sub hl [1, 0, 2] rfl)
  refine lv_iconst (v := 0) hx hb dX0_rungs_0 (by decide) ?_
  refine lv_istore_n (lv' := [(1, .int 0), (0, .ref h)]) hx hb dX0_rungs_1 rfl hl (by decide) rfl (fun ls hl => ?_)
  refine lv_iconst (v := 0) hx hb dX0_rungs_2 (by decide) ?_
  refine lv_istore_n (lv' := [(2, .int 0), (1, .int 0), (0, .ref h)]) hx hb dX0_rungs_3 rfl hl (by decide) rfl (fun ls hl => ?_)
  exact loop 122 0 (by decide) (by decide) ls (lv_sub hl [1, 0, 2] rfl)

set_option maxHeartbeats 4000000 in
set_option maxRecDepth 100000 in
theorem c_X0_rung_v (l : Launch) (D : va_G) (N0 : Nat) (cA cL : ClassId) (E : va_W) (h : Nat) (d : Nat → Nat) (z : S7) (c : C5) (num : Int32) (hc : okC c) (hv : ¬ zRg c num < 0) : Met l yX0_rung wsX0_rung ({ frames := 4, cells := 0, slots := 0, locals := 89 }) (va_Pc [.ref h, .int num] (zPre D N0 cA cL (wX h d cA z c ++ E))) (vp_Si (fun rv => rv = zRg c num)) 0 0 (fun _ => False) := by
  refine Met.ofW (cc := cX0_rung) (maxL := 4) (ret := (some .int)) (by decide) rfl ?_
  intro pr e s m ag below meth cd s₁ B hml hv
  obtain ⟨rfl, hN, hP, hD, hK, hE⟩ := hv
  have hx := B.exec
  have hb := B.bytes
  have hr := B.returns
  have hts := atoms_spec (ws := wsX0_rung) B.pre
  have hown : s.vm.findClass RX0 = some m.cls := findClass_of_methodNamed B.named
  have hlocks := B.notSynchronized
  have hS : va_S (zA N0) s.heap s.heap [] := va_S.rf
  have hl := lv_entry ([.ref h, .int num]) (n := 4) (Nat.le_of_ble_eq_true rfl)
  rw [lg_entry_eq]
  generalize (lg_sl ([.ref h, .int num]) ++ List.replicate (4 - (lg_sl ([.ref h, .int num])).length) Slot.unset).toArray = ls at hl ⊢
  have hl : lv_has ls 4 [(0, .ref h), (1, .int num)] := hl
  have loop : ∀ (n : Nat) (k : Nat), k ≤ 121 → 122 ≤ k + n → zRgn c num k = -1 → ∀ (ls : Array Slot), lv_has ls 4 [(2, .int (zRcn c k)), (3, .int (nI (100 * k))), (0, .ref h), (1, .int num)] → W pr l e (headSpec wsX0_rung ({ frames := 4, cells := 0, slots := 0, locals := 89 })).room s m ([.ref h, .int num] : List Value).toArray below meth cd s.heap [] 0 0 (MQ below (vp_Si (fun rv => rv = zRg c num)) ([.ref h, .int num] : List Value).toArray s 0 0 (fun _ => False)) (F0 m 4 ls []) := by
    intro n
    induction n with
    | zero =>
      intro k hk hn hz
      omega
    | succ n ih =>
      intro k hk hn hz ls hl
      refine lv_iload_n hx hb dX0_rung_4 rfl (lv_at hl 1 rfl) ?_
      refine lv_sipush (v := 12000) hx hb dX0_rung_5 (by decide) ?_
      refine lv_icmp_gt (tgt := 35) hx hb dX0_rung_8 (by decide) (fun c_8 => ?_) (fun c_8 => ?_)
      · have hk1 : k = 121 := by have := (nI_ltI (a := 12000) (by decide) (by omega)).mp c_8; omega
        subst hk1
        exact absurd (by rw [show zRg c num = -1 from hz]; decide) hv
      · have hk1 : k < 121 := by
          rcases Nat.lt_or_ge k 121 with q | q
          · exact q
          · exact absurd ((nI_ltI (a := 12000) (by decide) (by omega)).mpr (by omega)) c_8
        refine lv_aload_n hx hb dX0_rung_11 rfl (lv_at hl 2 rfl) ?_
        refine lv_iload_n hx hb dX0_rung_12 rfl (lv_at hl 1 rfl) ?_
        refine vp_callSi ((va_runV (As := [.int (nI (100 * k))]) (rest := []) ⟨hx, hb, hml, hown, hts⟩ (c_X0_isRung l D N0 cA cL E h d z c (nI (100 * k)) hc) (cwV 1 hts gX0_rung_X0_isRung rfl rfl rfl (by decide +kernel) ⟨Nat.le_of_ble_eq_true rfl, Nat.le_of_ble_eq_true rfl⟩) ⟨zPre.blind, va_recv hK hP (ci := 0) (q0 := 0) rfl rfl, zPre.call hN hP hD hK hE hS⟩ rfl rfl hl.1 rfl (lv_room (Nat.le_of_ble_eq_true rfl)) dX0_rung_13 ⟨Nat.zero_le _, Nat.zero_le _⟩).run) (fun r_13 h_13 => ?_)
        have h_13 : r_13 = (zb (¬ zStep c (nI (100 * k)) = -1)) := h_13
        subst h_13
        refine lv_if_eq (tgt := 29) hx hb dX0_rung_16 (by decide) (fun c_16 => ?_) (fun c_16 => ?_)
        · refine lv_iinc (v := (nI (100 * (k + 1)))) (lv' := [(3, .int (nI (100 * (k + 1)))), (2, .int (zRcn c k)), (0, .ref h), (1, .int num)]) hx hb dX0_rung_29 hl (k := 1) rfl (z_inc (100 * k) 100) (by decide) rfl (fun ls hl => ?_)
          refine lv_goto (tgt := 4) hx hb dX0_rung_32 (by decide) ?_
          have hl : lv_has ls 4 [(3, .int (nI (100 * (k + 1)))), (2, .int (zRcn c (k + 1))), (0, .ref h), (1, .int num)] := by
            rw [show ((zRcn c (k + 1)) : Int32) = (zRcn c k) from (zRcn_0 ((zStep_neg hc _).mpr (Decidable.not_not.mp (zb_f c_16))))]
            exact hl
          exact ih (k + 1) (by omega) (by omega) (zRgn_0 (fun q => q.1 ((zStep_neg hc _).mpr (Decidable.not_not.mp (zb_f c_16)))) hz) ls (lv_sub hl [1, 0, 2, 3] rfl)
        · refine lv_iload_n hx hb dX0_rung_19 rfl (lv_at hl 0 rfl) ?_
          refine lv_iload_n hx hb dX0_rung_20 rfl (lv_at hl 3 rfl) ?_
          refine lv_icmp_ne (tgt := 26) hx hb dX0_rung_21 (by decide) (fun c_21 => ?_) (fun c_21 => ?_)
          · refine lv_iinc (v := ((zRcn c k) + 1)) (lv' := [(2, .int ((zRcn c k) + 1)), (3, .int (nI (100 * k))), (0, .ref h), (1, .int num)]) hx hb dX0_rung_26 hl (k := 0) rfl rfl (by decide) rfl (fun ls hl => ?_)
            refine lv_iinc (v := (nI (100 * (k + 1)))) (lv' := [(3, .int (nI (100 * (k + 1)))), (2, .int ((zRcn c k) + 1)), (0, .ref h), (1, .int num)]) hx hb dX0_rung_29 hl (k := 1) rfl (z_inc (100 * k) 100) (by decide) rfl (fun ls hl => ?_)
            refine lv_goto (tgt := 4) hx hb dX0_rung_32 (by decide) ?_
            have hl : lv_has ls 4 [(3, .int (nI (100 * (k + 1)))), (2, .int (zRcn c (k + 1))), (0, .ref h), (1, .int num)] := by
              rw [show ((zRcn c (k + 1)) : Int32) = ((zRcn c k) + 1) from (zRcn_1 (fun q => zb_t c_16 ((zStep_neg hc _).mp q)))]
              exact hl
            exact ih (k + 1) (by omega) (by omega) (zRgn_0 (fun q => c_21 q.2.symm) hz) ls (lv_sub hl [1, 0, 2, 3] rfl)
          · refine lv_iload_n hx hb dX0_rung_24 rfl (lv_at hl 1 rfl) ?_
            exact W.iret (v := (nI (100 * k))) hx hb hr (fun t ht hW => ⟨_, rfl, (zRg_hit hk1 (fun q => zb_t c_16 ((zStep_neg hc _).mp q)) c_21.symm).symm, ht⟩) (fun _ h9 => nomatch h9) dX0_rung_25
  refine lv_iconst (v := 0) hx hb dX0_rung_0 (by decide) ?_
  refine lv_istore_n (lv' := [(2, .int 0), (0, .ref h), (1, .int num)]) hx hb dX0_rung_1 rfl hl (by decide) rfl (fun ls hl => ?_)
  refine lv_iconst (v := 0) hx hb dX0_rung_2 (by decide) ?_
  refine lv_istore_n (lv' := [(3, .int 0), (2, .int 0), (0, .ref h), (1, .int num)]) hx hb dX0_rung_3 rfl hl (by decide) rfl (fun ls hl => ?_)
  exact loop 122 0 (by decide) (by decide) rfl ls (lv_sub hl [1, 0, 2, 3] rfl)

set_option maxHeartbeats 4000000 in
set_option maxRecDepth 100000 in
theorem c_X0_inOctaves (l : Launch) (D : va_G) (N0 : Nat) (cA cL : ClassId) (E : va_W) (h : Nat) (d : Nat → Nat) (z : S7) (c : C5) : Met l yX0_inOctaves wsX0_inOctaves ({ frames := 1, cells := 0, slots := 0, locals := 21 }) (va_Pc [.ref h] (zPre D N0 cA cL (wX h d cA z c ++ E))) (vp_Si (fun rv => rv = zIO z.1)) 0 0 (fun _ => False) := by
  refine Met.ofW (cc := cX0_inOctaves) (maxL := 4) (ret := (some .int)) (by decide) rfl ?_
  intro pr e s m ag below meth cd s₁ B hml hv
  obtain ⟨rfl, hN, hP, hD, hK, hE⟩ := hv
  have hx := B.exec
  have hb := B.bytes
  have hr := B.returns
  have hts := atoms_spec (ws := wsX0_inOctaves) B.pre
  have hown : s.vm.findClass RX0 = some m.cls := findClass_of_methodNamed B.named
  have hlocks := B.notSynchronized
  have hS : va_S (zA N0) s.heap s.heap [] := va_S.rf
  have hiw : ∀ w ∈ u_ws RX0 TX0 12, w ∈ wsX0_inOctaves := by decide +kernel
  have hl := lv_entry ([.ref h]) (n := 4) (Nat.le_of_ble_eq_true rfl)
  rw [lg_entry_eq]
  generalize (lg_sl ([.ref h]) ++ List.replicate (4 - (lg_sl ([.ref h])).length) Slot.unset).toArray = ls at hl ⊢
  have hl : lv_has ls 4 [(0, .ref h)] := hl
  have bk : ∀ (i j : Nat) (x : Int32), i < 4 → j < 4 → (∀ (ls : Array Slot), lv_has ls 4 [(1, .int (x + zb (zOct (z.1 i) (z.1 j)))), (3, .int (nI (j + 1))), (2, .int (nI i)), (0, .ref h)] → W pr l e (headSpec wsX0_inOctaves ({ frames := 1, cells := 0, slots := 0, locals := 21 })).room s m ([.ref h] : List Value).toArray below meth cd s.heap [] 0 0 (MQ below (vp_Si (fun rv => rv = zIO z.1)) ([.ref h] : List Value).toArray s 0 0 (fun _ => False)) (F0 m 13 ls [])) → ∀ (ls : Array Slot), lv_has ls 4 [(1, .int x), (3, .int (nI j)), (2, .int (nI i)), (0, .ref h)] → W pr l e (headSpec wsX0_inOctaves ({ frames := 1, cells := 0, slots := 0, locals := 21 })).room s m ([.ref h] : List Value).toArray below meth cd s.heap [] 0 0 (MQ below (vp_Si (fun rv => rv = zIO z.1)) ([.ref h] : List Value).toArray s 0 0 (fun _ => False)) (F0 m 18 ls []) := by
    intro i j x hi hj kk ls hl
    refine lv_aload_n hx hb dX0_inOctaves_18 rfl (lv_at hl 3 rfl) ?_
    refine va_get (D := D) (ci := 0) (v := .ref (d 0)) (C := RX0) (T := TX0) (N := 12) hx hb hts hiw hown hK hP 0 rfl rfl 0 (by decide) (hts (.fieldLink RX0 9 "TunedWrens" "rungOfWren" "[I") (by decide +kernel)) (fun _ h9 => h9) rfl dX0_inOctaves_19 ?_
    refine lv_iload_n hx hb dX0_inOctaves_22 rfl (lv_at hl 2 rfl) ?_
    refine va_iald hx hb hK hP 1 0 rfl rfl (vp_in_nI hi (by decide)) dX0_inOctaves_23 ?_
    rw [show ((z.1 (nI i).toNatClampNeg) : Int32) = (z.1 i) from (by rw [nI_clamp (by omega)])]
    refine lv_aload_n hx hb dX0_inOctaves_24 rfl (lv_at hl 3 rfl) ?_
    refine va_get (D := D) (ci := 0) (v := .ref (d 0)) (C := RX0) (T := TX0) (N := 12) hx hb hts hiw hown hK hP 0 rfl rfl 0 (by decide) (hts (.fieldLink RX0 9 "TunedWrens" "rungOfWren" "[I") (by decide +kernel)) (fun _ h9 => h9) rfl dX0_inOctaves_25 ?_
    refine lv_iload_n hx hb dX0_inOctaves_28 rfl (lv_at hl 1 rfl) ?_
    refine va_iald hx hb hK hP 1 0 rfl rfl (vp_in_nI hj (by decide)) dX0_inOctaves_29 ?_
    rw [show ((z.1 (nI j).toNatClampNeg) : Int32) = (z.1 j) from (by rw [nI_clamp (by omega)])]
    refine vp_callSi ((va_runS (As := [.int (z.1 i), .int (z.1 j)]) (rest := []) ⟨hx, hb, hml, hown, hts⟩ (c_X0_areInOctaves l (z.1 i) (z.1 j)) (va_cwS 2 hts gX0_inOctaves_X0_areInOctaves rfl rfl rfl (by decide +kernel) ⟨Nat.le_of_ble_eq_true rfl, Nat.le_of_ble_eq_true rfl⟩) ⟨zT.blind, zT.call⟩ rfl rfl hl.1 rfl (lv_room (Nat.le_of_ble_eq_true rfl)) dX0_inOctaves_30 ⟨Nat.zero_le _, Nat.zero_le _⟩).run) (fun r_30 h_30 => ?_)
    have h_30 : r_30 = (zb (zOct (z.1 i) (z.1 j))) := h_30
    subst h_30
    refine lv_if_eq (tgt := 39) hx hb dX0_inOctaves_33 (by decide) (fun c_33 => ?_) (fun c_33 => ?_)
    · refine lv_iinc (v := (nI (j + 1))) (lv' := [(3, .int (nI (j + 1))), (1, .int x), (2, .int (nI i)), (0, .ref h)]) hx hb dX0_inOctaves_39 hl (k := 1) rfl (z_inc j 1) (by decide) rfl (fun ls hl => ?_)
      refine lv_goto (tgt := 13) hx hb dX0_inOctaves_42 (by decide) ?_
      have hl : lv_has ls 4 [(3, .int (nI (j + 1))), (1, .int (x + zb (zOct (z.1 i) (z.1 j)))), (2, .int (nI i)), (0, .ref h)] := by
        rw [show ((x + zb (zOct (z.1 i) (z.1 j))) : Int32) = x from (by rw [zb_0 (zb_f c_33), Int32.add_zero])]
        exact hl
      exact kk ls (lv_sub hl [1, 0, 2, 3] rfl)
    · refine lv_iinc (v := (x + 1)) (lv' := [(1, .int (x + 1)), (3, .int (nI j)), (2, .int (nI i)), (0, .ref h)]) hx hb dX0_inOctaves_36 hl (k := 0) rfl rfl (by decide) rfl (fun ls hl => ?_)
      refine lv_iinc (v := (nI (j + 1))) (lv' := [(3, .int (nI (j + 1))), (1, .int (x + 1)), (2, .int (nI i)), (0, .ref h)]) hx hb dX0_inOctaves_39 hl (k := 1) rfl (z_inc j 1) (by decide) rfl (fun ls hl => ?_)
      refine lv_goto (tgt := 13) hx hb dX0_inOctaves_42 (by decide) ?_
      have hl : lv_has ls 4 [(3, .int (nI (j + 1))), (1, .int (x + zb (zOct (z.1 i) (z.1 j)))), (2, .int (nI i)), (0, .ref h)] := by
        rw [show ((x + zb (zOct (z.1 i) (z.1 j))) : Int32) = (x + 1) from (by rw [zb_1 (zb_t c_33)])]
        exact hl
      exact kk ls (lv_sub hl [1, 0, 2, 3] rfl)
  refine lv_iconst (v := 0) hx hb dX0_inOctaves_0 (by decide) ?_
  refine lv_istore_n (lv' := [(1, .int 0), (0, .ref h)]) hx hb dX0_inOctaves_1 rfl hl (by decide) rfl (fun ls hl => ?_)
  refine lv_iconst (v := 0) hx hb dX0_inOctaves_2 (by decide) ?_
  refine lv_istore_n (lv' := [(2, .int 0), (1, .int 0), (0, .ref h)]) hx hb dX0_inOctaves_3 rfl hl (by decide) rfl (fun ls hl => ?_)
  refine lv_iload_n hx hb dX0_inOctaves_4 rfl (lv_at hl 0 rfl) ?_
  refine lv_iconst (v := 4) hx hb dX0_inOctaves_5 (by decide) ?_
  refine lv_icmp_ge (tgt := 51) hx hb dX0_inOctaves_6 (by decide) (fun c_6 => absurd c_6 (by decide)) (fun _ => ?_)
  refine lv_iload_n hx hb dX0_inOctaves_9 rfl (lv_at hl 0 rfl) ?_
  refine lv_iconst (v := 1) hx hb dX0_inOctaves_10 (by decide) ?_
  refine lv_iadd hx hb dX0_inOctaves_11 ?_
  rw [show ((0 + 1) : Int32) = 1 from rfl]
  refine lv_istore_n (lv' := [(3, .int 1), (2, .int 0), (1, .int 0), (0, .ref h)]) hx hb dX0_inOctaves_12 rfl hl (by decide) rfl (fun ls hl => ?_)
  refine lv_iload_n hx hb dX0_inOctaves_13 rfl (lv_at hl 0 rfl) ?_
  refine lv_iconst (v := 4) hx hb dX0_inOctaves_14 (by decide) ?_
  refine lv_icmp_ge (tgt := 45) hx hb dX0_inOctaves_15 (by decide) (fun c_15 => absurd c_15 (by decide)) (fun _ => ?_)
  refine bk 0 1 0 (by decide) (by decide) (fun ls hl => ?_) ls (lv_sub hl [2, 0, 1, 3] rfl)
  have hl : lv_has ls 4 [(1, .int (0 + zb (zOct (z.1 0) (z.1 1)))), (3, .int 2), (2, .int 0), (0, .ref h)] := hl
  refine lv_iload_n hx hb dX0_inOctaves_13 rfl (lv_at hl 1 rfl) ?_
  refine lv_iconst (v := 4) hx hb dX0_inOctaves_14 (by decide) ?_
  refine lv_icmp_ge (tgt := 45) hx hb dX0_inOctaves_15 (by decide) (fun c_15 => absurd c_15 (by decide)) (fun _ => ?_)
  refine bk 0 2 (0 + zb (zOct (z.1 0) (z.1 1))) (by decide) (by decide) (fun ls hl => ?_) ls (lv_sub hl [0, 1, 2, 3] rfl)
  have hl : lv_has ls 4 [(1, .int ((0 + zb (zOct (z.1 0) (z.1 1))) + zb (zOct (z.1 0) (z.1 2)))), (3, .int 3), (2, .int 0), (0, .ref h)] := hl
  refine lv_iload_n hx hb dX0_inOctaves_13 rfl (lv_at hl 1 rfl) ?_
  refine lv_iconst (v := 4) hx hb dX0_inOctaves_14 (by decide) ?_
  refine lv_icmp_ge (tgt := 45) hx hb dX0_inOctaves_15 (by decide) (fun c_15 => absurd c_15 (by decide)) (fun _ => ?_)
  refine bk 0 3 ((0 + zb (zOct (z.1 0) (z.1 1))) + zb (zOct (z.1 0) (z.1 2))) (by decide) (by decide) (fun ls hl => ?_) ls (lv_sub hl [0, 1, 2, 3] rfl)
  have hl : lv_has ls 4 [(1, .int (((0 + zb (zOct (z.1 0) (z.1 1))) + zb (zOct (z.1 0) (z.1 2))) + zb (zOct (z.1 0) (z.1 3)))), (3, .int 4), (2, .int 0), (0, .ref h)] := hl
  refine lv_iload_n hx hb dX0_inOctaves_13 rfl (lv_at hl 1 rfl) ?_
  refine lv_iconst (v := 4) hx hb dX0_inOctaves_14 (by decide) ?_
  refine lv_icmp_ge (tgt := 45) hx hb dX0_inOctaves_15 (by decide) (fun _ => ?_) (fun c_15 => absurd c_15 (by decide))
  refine lv_iinc (v := 1) (lv' := [(2, .int 1), (1, .int (((0 + zb (zOct (z.1 0) (z.1 1))) + zb (zOct (z.1 0) (z.1 2))) + zb (zOct (z.1 0) (z.1 3)))), (3, .int 4), (0, .ref h)]) hx hb dX0_inOctaves_45 hl (k := 2) rfl rfl (by decide) rfl (fun ls hl => ?_)
  refine lv_goto (tgt := 4) hx hb dX0_inOctaves_48 (by decide) ?_
  refine lv_iload_n hx hb dX0_inOctaves_4 rfl (lv_at hl 0 rfl) ?_
  refine lv_iconst (v := 4) hx hb dX0_inOctaves_5 (by decide) ?_
  refine lv_icmp_ge (tgt := 51) hx hb dX0_inOctaves_6 (by decide) (fun c_6 => absurd c_6 (by decide)) (fun _ => ?_)
  refine lv_iload_n hx hb dX0_inOctaves_9 rfl (lv_at hl 0 rfl) ?_
  refine lv_iconst (v := 1) hx hb dX0_inOctaves_10 (by decide) ?_
  refine lv_iadd hx hb dX0_inOctaves_11 ?_
  rw [show ((1 + 1) : Int32) = 2 from rfl]
  refine lv_istore_n (lv' := [(3, .int 2), (2, .int 1), (1, .int (((0 + zb (zOct (z.1 0) (z.1 1))) + zb (zOct (z.1 0) (z.1 2))) + zb (zOct (z.1 0) (z.1 3)))), (0, .ref h)]) hx hb dX0_inOctaves_12 rfl hl (by decide) rfl (fun ls hl => ?_)
  refine lv_iload_n hx hb dX0_inOctaves_13 rfl (lv_at hl 0 rfl) ?_
  refine lv_iconst (v := 4) hx hb dX0_inOctaves_14 (by decide) ?_
  refine lv_icmp_ge (tgt := 45) hx hb dX0_inOctaves_15 (by decide) (fun c_15 => absurd c_15 (by decide)) (fun _ => ?_)
  refine bk 1 2 (((0 + zb (zOct (z.1 0) (z.1 1))) + zb (zOct (z.1 0) (z.1 2))) + zb (zOct (z.1 0) (z.1 3))) (by decide) (by decide) (fun ls hl => ?_) ls (lv_sub hl [2, 0, 1, 3] rfl)
  have hl : lv_has ls 4 [(1, .int ((((0 + zb (zOct (z.1 0) (z.1 1))) + zb (zOct (z.1 0) (z.1 2))) + zb (zOct (z.1 0) (z.1 3))) + zb (zOct (z.1 1) (z.1 2)))), (3, .int 3), (2, .int 1), (0, .ref h)] := hl
  refine lv_iload_n hx hb dX0_inOctaves_13 rfl (lv_at hl 1 rfl) ?_
  refine lv_iconst (v := 4) hx hb dX0_inOctaves_14 (by decide) ?_
  refine lv_icmp_ge (tgt := 45) hx hb dX0_inOctaves_15 (by decide) (fun c_15 => absurd c_15 (by decide)) (fun _ => ?_)
  refine bk 1 3 ((((0 + zb (zOct (z.1 0) (z.1 1))) + zb (zOct (z.1 0) (z.1 2))) + zb (zOct (z.1 0) (z.1 3))) + zb (zOct (z.1 1) (z.1 2))) (by decide) (by decide) (fun ls hl => ?_) ls (lv_sub hl [0, 1, 2, 3] rfl)
  have hl : lv_has ls 4 [(1, .int (((((0 + zb (zOct (z.1 0) (z.1 1))) + zb (zOct (z.1 0) (z.1 2))) + zb (zOct (z.1 0) (z.1 3))) + zb (zOct (z.1 1) (z.1 2))) + zb (zOct (z.1 1) (z.1 3)))), (3, .int 4), (2, .int 1), (0, .ref h)] := hl
  refine lv_iload_n hx hb dX0_inOctaves_13 rfl (lv_at hl 1 rfl) ?_
  refine lv_iconst (v := 4) hx hb dX0_inOctaves_14 (by decide) ?_
  refine lv_icmp_ge (tgt := 45) hx hb dX0_inOctaves_15 (by decide) (fun _ => ?_) (fun c_15 => absurd c_15 (by decide))
  refine lv_iinc (v := 2) (lv' := [(2, .int 2), (1, .int (((((0 + zb (zOct (z.1 0) (z.1 1))) + zb (zOct (z.1 0) (z.1 2))) + zb (zOct (z.1 0) (z.1 3))) + zb (zOct (z.1 1) (z.1 2))) + zb (zOct (z.1 1) (z.1 3)))), (3, .int 4), (0, .ref h)]) hx hb dX0_inOctaves_45 hl (k := 2) rfl rfl (by decide) rfl (fun ls hl => ?_)
  refine lv_goto (tgt := 4) hx hb dX0_inOctaves_48 (by decide) ?_
  refine lv_iload_n hx hb dX0_inOctaves_4 rfl (lv_at hl 0 rfl) ?_
  refine lv_iconst (v := 4) hx hb dX0_inOctaves_5 (by decide) ?_
  refine lv_icmp_ge (tgt := 51) hx hb dX0_inOctaves_6 (by decide) (fun c_6 => absurd c_6 (by decide)) (fun _ => ?_)
  refine lv_iload_n hx hb dX0_inOctaves_9 rfl (lv_at hl 0 rfl) ?_
  refine lv_iconst (v := 1) hx hb dX0_inOctaves_10 (by decide) ?_
  refine lv_iadd hx hb dX0_inOctaves_11 ?_
  rw [show ((2 + 1) : Int32) = 3 from rfl]
  refine lv_istore_n (lv' := [(3, .int 3), (2, .int 2), (1, .int (((((0 + zb (zOct (z.1 0) (z.1 1))) + zb (zOct (z.1 0) (z.1 2))) + zb (zOct (z.1 0) (z.1 3))) + zb (zOct (z.1 1) (z.1 2))) + zb (zOct (z.1 1) (z.1 3)))), (0, .ref h)]) hx hb dX0_inOctaves_12 rfl hl (by decide) rfl (fun ls hl => ?_)
  refine lv_iload_n hx hb dX0_inOctaves_13 rfl (lv_at hl 0 rfl) ?_
  refine lv_iconst (v := 4) hx hb dX0_inOctaves_14 (by decide) ?_
  refine lv_icmp_ge (tgt := 45) hx hb dX0_inOctaves_15 (by decide) (fun c_15 => absurd c_15 (by decide)) (fun _ => ?_)
  refine bk 2 3 (((((0 + zb (zOct (z.1 0) (z.1 1))) + zb (zOct (z.1 0) (z.1 2))) + zb (zOct (z.1 0) (z.1 3))) + zb (zOct (z.1 1) (z.1 2))) + zb (zOct (z.1 1) (z.1 3))) (by decide) (by decide) (fun ls hl => ?_) ls (lv_sub hl [2, 0, 1, 3] rfl)
  have hl : lv_has ls 4 [(1, .int ((((((0 + zb (zOct (z.1 0) (z.1 1))) + zb (zOct (z.1 0) (z.1 2))) + zb (zOct (z.1 0) (z.1 3))) + zb (zOct (z.1 1) (z.1 2))) + zb (zOct (z.1 1) (z.1 3))) + zb (zOct (z.1 2) (z.1 3)))), (3, .int 4), (2, .int 2), (0, .ref h)] := hl
  refine lv_iload_n hx hb dX0_inOctaves_13 rfl (lv_at hl 1 rfl) ?_
  refine lv_iconst (v := 4) hx hb dX0_inOctaves_14 (by decide) ?_
  refine lv_icmp_ge (tgt := 45) hx hb dX0_inOctaves_15 (by decide) (fun _ => ?_) (fun c_15 => absurd c_15 (by decide))
  refine lv_iinc (v := 3) (lv' := [(2, .int 3), (1, .int ((((((0 + zb (zOct (z.1 0) (z.1 1))) + zb (zOct (z.1 0) (z.1 2))) + zb (zOct (z.1 0) (z.1 3))) + zb (zOct (z.1 1) (z.1 2))) + zb (zOct (z.1 1) (z.1 3))) + zb (zOct (z.1 2) (z.1 3)))), (3, .int 4), (0, .ref h)]) hx hb dX0_inOctaves_45 hl (k := 2) rfl rfl (by decide) rfl (fun ls hl => ?_)
  refine lv_goto (tgt := 4) hx hb dX0_inOctaves_48 (by decide) ?_
  refine lv_iload_n hx hb dX0_inOctaves_4 rfl (lv_at hl 0 rfl) ?_
  refine lv_iconst (v := 4) hx hb dX0_inOctaves_5 (by decide) ?_
  refine lv_icmp_ge (tgt := 51) hx hb dX0_inOctaves_6 (by decide) (fun c_6 => absurd c_6 (by decide)) (fun _ => ?_)
  refine lv_iload_n hx hb dX0_inOctaves_9 rfl (lv_at hl 0 rfl) ?_
  refine lv_iconst (v := 1) hx hb dX0_inOctaves_10 (by decide) ?_
  refine lv_iadd hx hb dX0_inOctaves_11 ?_
  rw [show ((3 + 1) : Int32) = 4 from rfl]
  refine lv_istore_n (lv' := [(3, .int 4), (2, .int 3), (1, .int ((((((0 + zb (zOct (z.1 0) (z.1 1))) + zb (zOct (z.1 0) (z.1 2))) + zb (zOct (z.1 0) (z.1 3))) + zb (zOct (z.1 1) (z.1 2))) + zb (zOct (z.1 1) (z.1 3))) + zb (zOct (z.1 2) (z.1 3)))), (0, .ref h)]) hx hb dX0_inOctaves_12 rfl hl (by decide) rfl (fun ls hl => ?_)
  refine lv_iload_n hx hb dX0_inOctaves_13 rfl (lv_at hl 0 rfl) ?_
  refine lv_iconst (v := 4) hx hb dX0_inOctaves_14 (by decide) ?_
  refine lv_icmp_ge (tgt := 45) hx hb dX0_inOctaves_15 (by decide) (fun _ => ?_) (fun c_15 => absurd c_15 (by decide))
  refine lv_iinc (v := 4) (lv' := [(2, .int 4), (3, .int 4), (1, .int ((((((0 + zb (zOct (z.1 0) (z.1 1))) + zb (zOct (z.1 0) (z.1 2))) + zb (zOct (z.1 0) (z.1 3))) + zb (zOct (z.1 1) (z.1 2))) + zb (zOct (z.1 1) (z.1 3))) + zb (zOct (z.1 2) (z.1 3)))), (0, .ref h)]) hx hb dX0_inOctaves_45 hl (k := 1) rfl rfl (by decide) rfl (fun ls hl => ?_)
  refine lv_goto (tgt := 4) hx hb dX0_inOctaves_48 (by decide) ?_
  refine lv_iload_n hx hb dX0_inOctaves_4 rfl (lv_at hl 0 rfl) ?_
  refine lv_iconst (v := 4) hx hb dX0_inOctaves_5 (by decide) ?_
  refine lv_icmp_ge (tgt := 51) hx hb dX0_inOctaves_6 (by decide) (fun _ => ?_) (fun c_6 => absurd c_6 (by decide))
  refine lv_iload_n hx hb dX0_inOctaves_51 rfl (lv_at hl 2 rfl) ?_
  exact W.iret (v := ((((((0 + zb (zOct (z.1 0) (z.1 1))) + zb (zOct (z.1 0) (z.1 2))) + zb (zOct (z.1 0) (z.1 3))) + zb (zOct (z.1 1) (z.1 2))) + zb (zOct (z.1 1) (z.1 3))) + zb (zOct (z.1 2) (z.1 3)))) hx hb hr (fun t ht hW => ⟨_, rfl, rfl, ht⟩) (fun _ h9 => nomatch h9) dX0_inOctaves_52

set_option maxHeartbeats 4000000 in
set_option maxRecDepth 100000 in
theorem c_X0_nearest_v (l : Launch) (D : va_G) (N0 : Nat) (cA cL : ClassId) (E : va_W) (h : Nat) (d : Nat → Nat) (z : S7) (c : C5) (p : Int32) (hc : okC c) (hp : zp p) : Met l yX0_nearest wsX0_nearest ({ frames := 5, cells := 0, slots := 0, locals := 113 }) (va_Pc [.ref h, .int p] (zPre D N0 cA cL (wX h d cA z c ++ E))) (vp_Si (fun rv => rv = zNear c p)) 0 0 (fun _ => False) := by
  refine Met.ofW (cc := cX0_nearest) (maxL := 2) (ret := (some .int)) (by decide) rfl ?_
  intro pr e s m ag below meth cd s₁ B hml hv
  obtain ⟨rfl, hN, hP, hD, hK, hE⟩ := hv
  have hx := B.exec
  have hb := B.bytes
  have hr := B.returns
  have hts := atoms_spec (ws := wsX0_nearest) B.pre
  have hown : s.vm.findClass RX0 = some m.cls := findClass_of_methodNamed B.named
  have hlocks := B.notSynchronized
  have hS : va_S (zA N0) s.heap s.heap [] := va_S.rf
  have hl := lv_entry ([.ref h, .int p]) (n := 2) (Nat.le_of_ble_eq_true rfl)
  rw [lg_entry_eq]
  generalize (lg_sl ([.ref h, .int p]) ++ List.replicate (2 - (lg_sl ([.ref h, .int p])).length) Slot.unset).toArray = ls at hl ⊢
  have hl : lv_has ls 2 [(0, .ref h), (1, .int p)] := hl
  refine lv_iload_n hx hb dX0_nearest_0 rfl (lv_at hl 1 rfl) ?_
  refine va_csv ((va_runS (As := [.int p]) (rest := []) ⟨hx, hb, hml, hown, hts⟩ (c_X0_requirePitch_v l p hp) (va_cwS 1 hts gX0_nearest_X0_requirePitch rfl rfl rfl (by decide +kernel) ⟨Nat.le_of_ble_eq_true rfl, Nat.le_of_ble_eq_true rfl⟩) ⟨zT.blind, zT.call⟩ rfl rfl hl.1 rfl (lv_room (Nat.le_of_ble_eq_true rfl)) dX0_nearest_1 ⟨Nat.zero_le _, Nat.zero_le _⟩).run) (fun _ => ?_)
  refine lv_aload_n hx hb dX0_nearest_4 rfl (lv_at hl 0 rfl) ?_
  refine lv_iload_n hx hb dX0_nearest_5 rfl (lv_at hl 1 rfl) ?_
  refine vp_callSi ((va_runV (As := [.int p]) (rest := []) ⟨hx, hb, hml, hown, hts⟩ (c_X0_nearestRung l D N0 cA cL E h d z c p hc hp) (cwV 1 hts gX0_nearest_X0_nearestRung rfl rfl rfl (by decide +kernel) ⟨Nat.le_of_ble_eq_true rfl, Nat.le_of_ble_eq_true rfl⟩) ⟨zPre.blind, va_recv hK hP (ci := 0) (q0 := 0) rfl rfl, zPre.call hN hP hD hK hE hS⟩ rfl rfl hl.1 rfl (lv_room (Nat.le_of_ble_eq_true rfl)) dX0_nearest_6 ⟨Nat.zero_le _, Nat.zero_le _⟩).run) (fun r_6 h_6 => ?_)
  have h_6 : r_6 = (zNear c p) := h_6
  subst h_6
  exact W.iret (v := (zNear c p)) hx hb hr (fun t ht hW => ⟨_, rfl, rfl, ht⟩) (fun _ h9 => nomatch h9) dX0_nearest_9

set_option maxHeartbeats 4000000 in
set_option maxRecDepth 100000 in
theorem c_X0_stepOf_v (l : Launch) (D : va_G) (N0 : Nat) (cA cL : ClassId) (E : va_W) (h : Nat) (d : Nat → Nat) (z : S7) (c : C5) (p : Int32) (hc : okC c) (hp : zp p) : Met l yX0_stepOf wsX0_stepOf ({ frames := 3, cells := 0, slots := 0, locals := 68 }) (va_Pc [.ref h, .int p] (zPre D N0 cA cL (wX h d cA z c ++ E))) (vp_Si (fun rv => rv = zStep c p)) 0 0 (fun _ => False) := by
  refine Met.ofW (cc := cX0_stepOf) (maxL := 2) (ret := (some .int)) (by decide) rfl ?_
  intro pr e s m ag below meth cd s₁ B hml hv
  obtain ⟨rfl, hN, hP, hD, hK, hE⟩ := hv
  have hx := B.exec
  have hb := B.bytes
  have hr := B.returns
  have hts := atoms_spec (ws := wsX0_stepOf) B.pre
  have hown : s.vm.findClass RX0 = some m.cls := findClass_of_methodNamed B.named
  have hlocks := B.notSynchronized
  have hS : va_S (zA N0) s.heap s.heap [] := va_S.rf
  have hl := lv_entry ([.ref h, .int p]) (n := 2) (Nat.le_of_ble_eq_true rfl)
  rw [lg_entry_eq]
  generalize (lg_sl ([.ref h, .int p]) ++ List.replicate (2 - (lg_sl ([.ref h, .int p])).length) Slot.unset).toArray = ls at hl ⊢
  have hl : lv_has ls 2 [(0, .ref h), (1, .int p)] := hl
  refine lv_iload_n hx hb dX0_stepOf_0 rfl (lv_at hl 1 rfl) ?_
  refine va_csv ((va_runS (As := [.int p]) (rest := []) ⟨hx, hb, hml, hown, hts⟩ (c_X0_requirePitch_v l p hp) (va_cwS 1 hts gX0_stepOf_X0_requirePitch rfl rfl rfl (by decide +kernel) ⟨Nat.le_of_ble_eq_true rfl, Nat.le_of_ble_eq_true rfl⟩) ⟨zT.blind, zT.call⟩ rfl rfl hl.1 rfl (lv_room (Nat.le_of_ble_eq_true rfl)) dX0_stepOf_1 ⟨Nat.zero_le _, Nat.zero_le _⟩).run) (fun _ => ?_)
  refine lv_aload_n hx hb dX0_stepOf_4 rfl (lv_at hl 0 rfl) ?_
  refine lv_iload_n hx hb dX0_stepOf_5 rfl (lv_at hl 1 rfl) ?_
  refine vp_callSi ((va_runV (As := [.int p]) (rest := []) ⟨hx, hb, hml, hown, hts⟩ (c_X0_stepAt l D N0 cA cL E h d z c p hc) (cwV 1 hts gX0_stepOf_X0_stepAt rfl rfl rfl (by decide +kernel) ⟨Nat.le_of_ble_eq_true rfl, Nat.le_of_ble_eq_true rfl⟩) ⟨zPre.blind, va_recv hK hP (ci := 0) (q0 := 0) rfl rfl, zPre.call hN hP hD hK hE hS⟩ rfl rfl hl.1 rfl (lv_room (Nat.le_of_ble_eq_true rfl)) dX0_stepOf_6 ⟨Nat.zero_le _, Nat.zero_le _⟩).run) (fun r_6 h_6 => ?_)
  have h_6 : r_6 = (zStep c p) := h_6
  subst h_6
  exact W.iret (v := (zStep c p)) hx hb hr (fun t ht hW => ⟨_, rfl, rfl, ht⟩) (fun _ h9 => nomatch h9) dX0_stepOf_9

set_option maxHeartbeats 4000000 in
set_option maxRecDepth 100000 in
theorem c_X0_rungOf_v (l : Launch) (D : va_G) (N0 : Nat) (cA cL : ClassId) (E : va_W) (h : Nat) (d : Nat → Nat) (z : S7) (c : C5) (w : Int32) (hw : zw w) : Met l yX0_rungOf wsX0_rungOf ({ frames := 1, cells := 0, slots := 0, locals := 20 }) (va_Pc [.ref h, .int w] (zPre D N0 cA cL (wX h d cA z c ++ E))) (vp_Si (fun rv => rv = z.1 w.toNatClampNeg)) 0 0 (fun _ => False) := by
  refine Met.ofW (cc := cX0_rungOf) (maxL := 2) (ret := (some .int)) (by decide) rfl ?_
  intro pr e s m ag below meth cd s₁ B hml hv
  obtain ⟨rfl, hN, hP, hD, hK, hE⟩ := hv
  have hx := B.exec
  have hb := B.bytes
  have hr := B.returns
  have hts := atoms_spec (ws := wsX0_rungOf) B.pre
  have hown : s.vm.findClass RX0 = some m.cls := findClass_of_methodNamed B.named
  have hlocks := B.notSynchronized
  have hS : va_S (zA N0) s.heap s.heap [] := va_S.rf
  have hiw : ∀ w ∈ u_ws RX0 TX0 12, w ∈ wsX0_rungOf := by decide +kernel
  have hl := lv_entry ([.ref h, .int w]) (n := 2) (Nat.le_of_ble_eq_true rfl)
  rw [lg_entry_eq]
  generalize (lg_sl ([.ref h, .int w]) ++ List.replicate (2 - (lg_sl ([.ref h, .int w])).length) Slot.unset).toArray = ls at hl ⊢
  have hl : lv_has ls 2 [(0, .ref h), (1, .int w)] := hl
  refine lv_iload_n hx hb dX0_rungOf_0 rfl (lv_at hl 1 rfl) ?_
  refine va_csv ((va_runS (As := [.int w]) (rest := []) ⟨hx, hb, hml, hown, hts⟩ (c_X0_requireWren_v l w hw) (va_cwS 1 hts gX0_rungOf_X0_requireWren rfl rfl rfl (by decide +kernel) ⟨Nat.le_of_ble_eq_true rfl, Nat.le_of_ble_eq_true rfl⟩) ⟨zT.blind, zT.call⟩ rfl rfl hl.1 rfl (lv_room (Nat.le_of_ble_eq_true rfl)) dX0_rungOf_1 ⟨Nat.zero_le _, Nat.zero_le _⟩).run) (fun _ => ?_)
  refine lv_aload_n hx hb dX0_rungOf_4 rfl (lv_at hl 0 rfl) ?_
  refine va_get (D := D) (ci := 0) (v := .ref (d 0)) (C := RX0) (T := TX0) (N := 12) hx hb hts hiw hown hK hP 0 rfl rfl 0 (by decide) (hts (.fieldLink RX0 9 "TunedWrens" "rungOfWren" "[I") (by decide +kernel)) (fun _ h9 => h9) rfl dX0_rungOf_5 ?_
  refine lv_iload_n hx hb dX0_rungOf_8 rfl (lv_at hl 1 rfl) ?_
  refine va_iald hx hb hK hP 1 0 rfl rfl (zw_in hw) dX0_rungOf_9 ?_
  exact W.iret (v := (z.1 w.toNatClampNeg)) hx hb hr (fun t ht hW => ⟨_, rfl, rfl, ht⟩) (fun _ h9 => nomatch h9) dX0_rungOf_10

set_option maxHeartbeats 4000000 in
set_option maxRecDepth 100000 in
theorem c_X0_nudgeOf_v (l : Launch) (D : va_G) (N0 : Nat) (cA cL : ClassId) (E : va_W) (h : Nat) (d : Nat → Nat) (z : S7) (c : C5) (w : Int32) (hw : zw w) : Met l yX0_nudgeOf wsX0_nudgeOf ({ frames := 1, cells := 0, slots := 0, locals := 20 }) (va_Pc [.ref h, .int w] (zPre D N0 cA cL (wX h d cA z c ++ E))) (vp_Si (fun rv => rv = z.2.1 w.toNatClampNeg)) 0 0 (fun _ => False) := by
  refine Met.ofW (cc := cX0_nudgeOf) (maxL := 2) (ret := (some .int)) (by decide) rfl ?_
  intro pr e s m ag below meth cd s₁ B hml hv
  obtain ⟨rfl, hN, hP, hD, hK, hE⟩ := hv
  have hx := B.exec
  have hb := B.bytes
  have hr := B.returns
  have hts := atoms_spec (ws := wsX0_nudgeOf) B.pre
  have hown : s.vm.findClass RX0 = some m.cls := findClass_of_methodNamed B.named
  have hlocks := B.notSynchronized
  have hS : va_S (zA N0) s.heap s.heap [] := va_S.rf
  have hiw : ∀ w ∈ u_ws RX0 TX0 12, w ∈ wsX0_nudgeOf := by decide +kernel
  have hl := lv_entry ([.ref h, .int w]) (n := 2) (Nat.le_of_ble_eq_true rfl)
  rw [lg_entry_eq]
  generalize (lg_sl ([.ref h, .int w]) ++ List.replicate (2 - (lg_sl ([.ref h, .int w])).length) Slot.unset).toArray = ls at hl ⊢
  have hl : lv_has ls 2 [(0, .ref h), (1, .int w)] := hl
  refine lv_iload_n hx hb dX0_nudgeOf_0 rfl (lv_at hl 1 rfl) ?_
  refine va_csv ((va_runS (As := [.int w]) (rest := []) ⟨hx, hb, hml, hown, hts⟩ (c_X0_requireWren_v l w hw) (va_cwS 1 hts gX0_nudgeOf_X0_requireWren rfl rfl rfl (by decide +kernel) ⟨Nat.le_of_ble_eq_true rfl, Nat.le_of_ble_eq_true rfl⟩) ⟨zT.blind, zT.call⟩ rfl rfl hl.1 rfl (lv_room (Nat.le_of_ble_eq_true rfl)) dX0_nudgeOf_1 ⟨Nat.zero_le _, Nat.zero_le _⟩).run) (fun _ => ?_)
  refine lv_aload_n hx hb dX0_nudgeOf_4 rfl (lv_at hl 0 rfl) ?_
  refine va_get (D := D) (ci := 0) (v := .ref (d 1)) (C := RX0) (T := TX0) (N := 12) hx hb hts hiw hown hK hP 0 rfl rfl 1 (by decide) (hts (.fieldLink RX0 13 "TunedWrens" "nudgeOfWren" "[I") (by decide +kernel)) (fun _ h9 => h9) rfl dX0_nudgeOf_5 ?_
  refine lv_iload_n hx hb dX0_nudgeOf_8 rfl (lv_at hl 1 rfl) ?_
  refine va_iald hx hb hK hP 2 0 rfl rfl (zw_in hw) dX0_nudgeOf_9 ?_
  exact W.iret (v := (z.2.1 w.toNatClampNeg)) hx hb hr (fun t ht hW => ⟨_, rfl, rfl, ht⟩) (fun _ h9 => nomatch h9) dX0_nudgeOf_10

set_option maxHeartbeats 4000000 in
set_option maxRecDepth 100000 in
theorem c_X0_framesOf_v (l : Launch) (D : va_G) (N0 : Nat) (cA cL : ClassId) (E : va_W) (h : Nat) (d : Nat → Nat) (z : S7) (c : C5) (w : Int32) (hw : zw w) : Met l yX0_framesOf wsX0_framesOf ({ frames := 1, cells := 0, slots := 0, locals := 20 }) (va_Pc [.ref h, .int w] (zPre D N0 cA cL (wX h d cA z c ++ E))) (vp_Si (fun rv => rv = z.2.2.1 w.toNatClampNeg)) 0 0 (fun _ => False) := by
  refine Met.ofW (cc := cX0_framesOf) (maxL := 2) (ret := (some .int)) (by decide) rfl ?_
  intro pr e s m ag below meth cd s₁ B hml hv
  obtain ⟨rfl, hN, hP, hD, hK, hE⟩ := hv
  have hx := B.exec
  have hb := B.bytes
  have hr := B.returns
  have hts := atoms_spec (ws := wsX0_framesOf) B.pre
  have hown : s.vm.findClass RX0 = some m.cls := findClass_of_methodNamed B.named
  have hlocks := B.notSynchronized
  have hS : va_S (zA N0) s.heap s.heap [] := va_S.rf
  have hiw : ∀ w ∈ u_ws RX0 TX0 12, w ∈ wsX0_framesOf := by decide +kernel
  have hl := lv_entry ([.ref h, .int w]) (n := 2) (Nat.le_of_ble_eq_true rfl)
  rw [lg_entry_eq]
  generalize (lg_sl ([.ref h, .int w]) ++ List.replicate (2 - (lg_sl ([.ref h, .int w])).length) Slot.unset).toArray = ls at hl ⊢
  have hl : lv_has ls 2 [(0, .ref h), (1, .int w)] := hl
  refine lv_iload_n hx hb dX0_framesOf_0 rfl (lv_at hl 1 rfl) ?_
  refine va_csv ((va_runS (As := [.int w]) (rest := []) ⟨hx, hb, hml, hown, hts⟩ (c_X0_requireWren_v l w hw) (va_cwS 1 hts gX0_framesOf_X0_requireWren rfl rfl rfl (by decide +kernel) ⟨Nat.le_of_ble_eq_true rfl, Nat.le_of_ble_eq_true rfl⟩) ⟨zT.blind, zT.call⟩ rfl rfl hl.1 rfl (lv_room (Nat.le_of_ble_eq_true rfl)) dX0_framesOf_1 ⟨Nat.zero_le _, Nat.zero_le _⟩).run) (fun _ => ?_)
  refine lv_aload_n hx hb dX0_framesOf_4 rfl (lv_at hl 0 rfl) ?_
  refine va_get (D := D) (ci := 0) (v := .ref (d 2)) (C := RX0) (T := TX0) (N := 12) hx hb hts hiw hown hK hP 0 rfl rfl 2 (by decide) (hts (.fieldLink RX0 16 "TunedWrens" "framesOfWren" "[I") (by decide +kernel)) (fun _ h9 => h9) rfl dX0_framesOf_5 ?_
  refine lv_iload_n hx hb dX0_framesOf_8 rfl (lv_at hl 1 rfl) ?_
  refine va_iald hx hb hK hP 3 0 rfl rfl (zw_in hw) dX0_framesOf_9 ?_
  exact W.iret (v := (z.2.2.1 w.toNatClampNeg)) hx hb hr (fun t ht hW => ⟨_, rfl, rfl, ht⟩) (fun _ h9 => nomatch h9) dX0_framesOf_10

set_option maxHeartbeats 4000000 in
set_option maxRecDepth 100000 in
theorem c_X0_changesOf_v (l : Launch) (D : va_G) (N0 : Nat) (cA cL : ClassId) (E : va_W) (h : Nat) (d : Nat → Nat) (z : S7) (c : C5) (w : Int32) (hw : zw w) : Met l yX0_changesOf wsX0_changesOf ({ frames := 1, cells := 0, slots := 0, locals := 20 }) (va_Pc [.ref h, .int w] (zPre D N0 cA cL (wX h d cA z c ++ E))) (vp_Si (fun rv => rv = z.2.2.2.1 w.toNatClampNeg)) 0 0 (fun _ => False) := by
  refine Met.ofW (cc := cX0_changesOf) (maxL := 2) (ret := (some .int)) (by decide) rfl ?_
  intro pr e s m ag below meth cd s₁ B hml hv
  obtain ⟨rfl, hN, hP, hD, hK, hE⟩ := hv
  have hx := B.exec
  have hb := B.bytes
  have hr := B.returns
  have hts := atoms_spec (ws := wsX0_changesOf) B.pre
  have hown : s.vm.findClass RX0 = some m.cls := findClass_of_methodNamed B.named
  have hlocks := B.notSynchronized
  have hS : va_S (zA N0) s.heap s.heap [] := va_S.rf
  have hiw : ∀ w ∈ u_ws RX0 TX0 12, w ∈ wsX0_changesOf := by decide +kernel
  have hl := lv_entry ([.ref h, .int w]) (n := 2) (Nat.le_of_ble_eq_true rfl)
  rw [lg_entry_eq]
  generalize (lg_sl ([.ref h, .int w]) ++ List.replicate (2 - (lg_sl ([.ref h, .int w])).length) Slot.unset).toArray = ls at hl ⊢
  have hl : lv_has ls 2 [(0, .ref h), (1, .int w)] := hl
  refine lv_iload_n hx hb dX0_changesOf_0 rfl (lv_at hl 1 rfl) ?_
  refine va_csv ((va_runS (As := [.int w]) (rest := []) ⟨hx, hb, hml, hown, hts⟩ (c_X0_requireWren_v l w hw) (va_cwS 1 hts gX0_changesOf_X0_requireWren rfl rfl rfl (by decide +kernel) ⟨Nat.le_of_ble_eq_true rfl, Nat.le_of_ble_eq_true rfl⟩) ⟨zT.blind, zT.call⟩ rfl rfl hl.1 rfl (lv_room (Nat.le_of_ble_eq_true rfl)) dX0_changesOf_1 ⟨Nat.zero_le _, Nat.zero_le _⟩).run) (fun _ => ?_)
  refine lv_aload_n hx hb dX0_changesOf_4 rfl (lv_at hl 0 rfl) ?_
  refine va_get (D := D) (ci := 0) (v := .ref (d 3)) (C := RX0) (T := TX0) (N := 12) hx hb hts hiw hown hK hP 0 rfl rfl 3 (by decide) (hts (.fieldLink RX0 19 "TunedWrens" "changesOfWren" "[I") (by decide +kernel)) (fun _ h9 => h9) rfl dX0_changesOf_5 ?_
  refine lv_iload_n hx hb dX0_changesOf_8 rfl (lv_at hl 1 rfl) ?_
  refine va_iald hx hb hK hP 4 0 rfl rfl (zw_in hw) dX0_changesOf_9 ?_
  exact W.iret (v := (z.2.2.2.1 w.toNatClampNeg)) hx hb hr (fun t ht hW => ⟨_, rfl, rfl, ht⟩) (fun _ h9 => nomatch h9) dX0_changesOf_10

set_option maxHeartbeats 4000000 in
set_option maxRecDepth 100000 in
theorem c_X0_leapsOf_v (l : Launch) (D : va_G) (N0 : Nat) (cA cL : ClassId) (E : va_W) (h : Nat) (d : Nat → Nat) (z : S7) (c : C5) (w : Int32) (hw : zw w) : Met l yX0_leapsOf wsX0_leapsOf ({ frames := 1, cells := 0, slots := 0, locals := 20 }) (va_Pc [.ref h, .int w] (zPre D N0 cA cL (wX h d cA z c ++ E))) (vp_Si (fun rv => rv = z.2.2.2.2.1 w.toNatClampNeg)) 0 0 (fun _ => False) := by
  refine Met.ofW (cc := cX0_leapsOf) (maxL := 2) (ret := (some .int)) (by decide) rfl ?_
  intro pr e s m ag below meth cd s₁ B hml hv
  obtain ⟨rfl, hN, hP, hD, hK, hE⟩ := hv
  have hx := B.exec
  have hb := B.bytes
  have hr := B.returns
  have hts := atoms_spec (ws := wsX0_leapsOf) B.pre
  have hown : s.vm.findClass RX0 = some m.cls := findClass_of_methodNamed B.named
  have hlocks := B.notSynchronized
  have hS : va_S (zA N0) s.heap s.heap [] := va_S.rf
  have hiw : ∀ w ∈ u_ws RX0 TX0 12, w ∈ wsX0_leapsOf := by decide +kernel
  have hl := lv_entry ([.ref h, .int w]) (n := 2) (Nat.le_of_ble_eq_true rfl)
  rw [lg_entry_eq]
  generalize (lg_sl ([.ref h, .int w]) ++ List.replicate (2 - (lg_sl ([.ref h, .int w])).length) Slot.unset).toArray = ls at hl ⊢
  have hl : lv_has ls 2 [(0, .ref h), (1, .int w)] := hl
  refine lv_iload_n hx hb dX0_leapsOf_0 rfl (lv_at hl 1 rfl) ?_
  refine va_csv ((va_runS (As := [.int w]) (rest := []) ⟨hx, hb, hml, hown, hts⟩ (c_X0_requireWren_v l w hw) (va_cwS 1 hts gX0_leapsOf_X0_requireWren rfl rfl rfl (by decide +kernel) ⟨Nat.le_of_ble_eq_true rfl, Nat.le_of_ble_eq_true rfl⟩) ⟨zT.blind, zT.call⟩ rfl rfl hl.1 rfl (lv_room (Nat.le_of_ble_eq_true rfl)) dX0_leapsOf_1 ⟨Nat.zero_le _, Nat.zero_le _⟩).run) (fun _ => ?_)
  refine lv_aload_n hx hb dX0_leapsOf_4 rfl (lv_at hl 0 rfl) ?_
  refine va_get (D := D) (ci := 0) (v := .ref (d 4)) (C := RX0) (T := TX0) (N := 12) hx hb hts hiw hown hK hP 0 rfl rfl 4 (by decide) (hts (.fieldLink RX0 22 "TunedWrens" "leapsOfWren" "[I") (by decide +kernel)) (fun _ h9 => h9) rfl dX0_leapsOf_5 ?_
  refine lv_iload_n hx hb dX0_leapsOf_8 rfl (lv_at hl 1 rfl) ?_
  refine va_iald hx hb hK hP 5 0 rfl rfl (zw_in hw) dX0_leapsOf_9 ?_
  exact W.iret (v := (z.2.2.2.2.1 w.toNatClampNeg)) hx hb hr (fun t ht hW => ⟨_, rfl, rfl, ht⟩) (fun _ h9 => nomatch h9) dX0_leapsOf_10

set_option maxHeartbeats 4000000 in
set_option maxRecDepth 100000 in
theorem c_X0_cleanOf_v (l : Launch) (D : va_G) (N0 : Nat) (cA cL : ClassId) (E : va_W) (h : Nat) (d : Nat → Nat) (z : S7) (c : C5) (w : Int32) (hw : zw w) : Met l yX0_cleanOf wsX0_cleanOf ({ frames := 1, cells := 0, slots := 0, locals := 20 }) (va_Pc [.ref h, .int w] (zPre D N0 cA cL (wX h d cA z c ++ E))) (vp_Si (fun rv => rv = z.2.2.2.2.2.1 w.toNatClampNeg)) 0 0 (fun _ => False) := by
  refine Met.ofW (cc := cX0_cleanOf) (maxL := 2) (ret := (some .int)) (by decide) rfl ?_
  intro pr e s m ag below meth cd s₁ B hml hv
  obtain ⟨rfl, hN, hP, hD, hK, hE⟩ := hv
  have hx := B.exec
  have hb := B.bytes
  have hr := B.returns
  have hts := atoms_spec (ws := wsX0_cleanOf) B.pre
  have hown : s.vm.findClass RX0 = some m.cls := findClass_of_methodNamed B.named
  have hlocks := B.notSynchronized
  have hS : va_S (zA N0) s.heap s.heap [] := va_S.rf
  have hiw : ∀ w ∈ u_ws RX0 TX0 12, w ∈ wsX0_cleanOf := by decide +kernel
  have hl := lv_entry ([.ref h, .int w]) (n := 2) (Nat.le_of_ble_eq_true rfl)
  rw [lg_entry_eq]
  generalize (lg_sl ([.ref h, .int w]) ++ List.replicate (2 - (lg_sl ([.ref h, .int w])).length) Slot.unset).toArray = ls at hl ⊢
  have hl : lv_has ls 2 [(0, .ref h), (1, .int w)] := hl
  refine lv_iload_n hx hb dX0_cleanOf_0 rfl (lv_at hl 1 rfl) ?_
  refine va_csv ((va_runS (As := [.int w]) (rest := []) ⟨hx, hb, hml, hown, hts⟩ (c_X0_requireWren_v l w hw) (va_cwS 1 hts gX0_cleanOf_X0_requireWren rfl rfl rfl (by decide +kernel) ⟨Nat.le_of_ble_eq_true rfl, Nat.le_of_ble_eq_true rfl⟩) ⟨zT.blind, zT.call⟩ rfl rfl hl.1 rfl (lv_room (Nat.le_of_ble_eq_true rfl)) dX0_cleanOf_1 ⟨Nat.zero_le _, Nat.zero_le _⟩).run) (fun _ => ?_)
  refine lv_aload_n hx hb dX0_cleanOf_4 rfl (lv_at hl 0 rfl) ?_
  refine va_get (D := D) (ci := 0) (v := .ref (d 5)) (C := RX0) (T := TX0) (N := 12) hx hb hts hiw hown hK hP 0 rfl rfl 5 (by decide) (hts (.fieldLink RX0 25 "TunedWrens" "cleanOfWren" "[I") (by decide +kernel)) (fun _ h9 => h9) rfl dX0_cleanOf_5 ?_
  refine lv_iload_n hx hb dX0_cleanOf_8 rfl (lv_at hl 1 rfl) ?_
  refine va_iald hx hb hK hP 6 0 rfl rfl (zw_in hw) dX0_cleanOf_9 ?_
  exact W.iret (v := (z.2.2.2.2.2.1 w.toNatClampNeg)) hx hb hr (fun t ht hW => ⟨_, rfl, rfl, ht⟩) (fun _ h9 => nomatch h9) dX0_cleanOf_10

set_option maxHeartbeats 4000000 in
set_option maxRecDepth 100000 in
theorem c_X0_sung_v (l : Launch) (D : va_G) (N0 : Nat) (cA cL : ClassId) (E : va_W) (h : Nat) (d : Nat → Nat) (z : S7) (c : C5) (k : Int32) (hk : 0 ≤ k ∧ k ≤ 11) : Met l yX0_sung wsX0_sung ({ frames := 0, cells := 0, slots := 0, locals := 0 }) (va_Pc [.ref h, .int k] (zPre D N0 cA cL (wX h d cA z c ++ E))) (vp_Si (fun rv => rv = z.2.2.2.2.2.2 k.toNatClampNeg)) 0 0 (fun _ => False) := by
  refine Met.ofW (cc := cX0_sung) (maxL := 2) (ret := (some .int)) (by decide) rfl ?_
  intro pr e s m ag below meth cd s₁ B hml hv
  obtain ⟨rfl, hN, hP, hD, hK, hE⟩ := hv
  have hx := B.exec
  have hb := B.bytes
  have hr := B.returns
  have hts := atoms_spec (ws := wsX0_sung) B.pre
  have hown : s.vm.findClass RX0 = some m.cls := findClass_of_methodNamed B.named
  have hlocks := B.notSynchronized
  have hS : va_S (zA N0) s.heap s.heap [] := va_S.rf
  have hiw : ∀ w ∈ u_ws RX0 TX0 12, w ∈ wsX0_sung := by decide +kernel
  have hl := lv_entry ([.ref h, .int k]) (n := 2) (Nat.le_of_ble_eq_true rfl)
  rw [lg_entry_eq]
  generalize (lg_sl ([.ref h, .int k]) ++ List.replicate (2 - (lg_sl ([.ref h, .int k])).length) Slot.unset).toArray = ls at hl ⊢
  have hl : lv_has ls 2 [(0, .ref h), (1, .int k)] := hl
  refine lv_iload_n hx hb dX0_sung_0 rfl (lv_at hl 1 rfl) ?_
  refine lv_if_lt (tgt := 10) hx hb dX0_sung_1 (by decide) (fun c_1 => ?_) (fun c_1 => ?_)
  · exact absurd c_1 (Int32.not_lt.mpr hk.1)
  · refine lv_iload_n hx hb dX0_sung_4 rfl (lv_at hl 1 rfl) ?_
    refine lv_bipush (v := 12) hx hb dX0_sung_5 (by decide) ?_
    refine lv_icmp_lt (tgt := 20) hx hb dX0_sung_7 (by decide) (fun c_7 => ?_) (fun c_7 => ?_)
    · refine lv_aload_n hx hb dX0_sung_20 rfl (lv_at hl 0 rfl) ?_
      refine va_get (D := D) (ci := 0) (v := .ref (d 6)) (C := RX0) (T := TX0) (N := 12) hx hb hts hiw hown hK hP 0 rfl rfl 6 (by decide) (hts (.fieldLink RX0 28 "TunedWrens" "framesOfSemitone" "[I") (by decide +kernel)) (fun _ h9 => h9) rfl dX0_sung_21 ?_
      refine lv_iload_n hx hb dX0_sung_24 rfl (lv_at hl 1 rfl) ?_
      refine va_iald hx hb hK hP 7 0 rfl rfl (zk_in hk) dX0_sung_25 ?_
      exact W.iret (v := (z.2.2.2.2.2.2 k.toNatClampNeg)) hx hb hr (fun t ht hW => ⟨_, rfl, rfl, ht⟩) (fun _ h9 => nomatch h9) dX0_sung_26
    · exact absurd (zk_lt hk) c_7

set_option maxHeartbeats 4000000 in
set_option maxRecDepth 100000 in
theorem c_X0_within_v (l : Launch) (D : va_G) (N0 : Nat) (cA cL : ClassId) (E : va_W) (h : Nat) (d : Nat → Nat) (z : S7) (c : C5) (ky md : Nat) (hk : ky < 12) (hm : md < 8) : Met l yX0_within wsX0_within ({ frames := 3, cells := 0, slots := 0, locals := 71 }) (va_Pc [.ref h, .int (nI ky), .int (nI md)] (zPre D N0 cA cL (wX h d cA z c ++ E))) (vp_Si (fun rv => rv = zW md ky z.2.2.2.2.2.2)) 0 0 (fun _ => False) := by
  refine Met.ofW (cc := cX0_within) (maxL := 3) (ret := (some .int)) (by decide) rfl ?_
  intro pr e s m ag below meth cd s₁ B hml hv
  obtain ⟨rfl, hN, hP, hD, hK, hE⟩ := hv
  have hx := B.exec
  have hb := B.bytes
  have hr := B.returns
  have hts := atoms_spec (ws := wsX0_within) B.pre
  have hown : s.vm.findClass RX0 = some m.cls := findClass_of_methodNamed B.named
  have hlocks := B.notSynchronized
  have hS : va_S (zA N0) s.heap s.heap [] := va_S.rf
  have hl := lv_entry ([.ref h, .int (nI ky), .int (nI md)]) (n := 3) (Nat.le_of_ble_eq_true rfl)
  rw [lg_entry_eq]
  generalize (lg_sl ([.ref h, .int (nI ky), .int (nI md)]) ++ List.replicate (3 - (lg_sl ([.ref h, .int (nI ky), .int (nI md)])).length) Slot.unset).toArray = ls at hl ⊢
  have hl : lv_has ls 3 [(0, .ref h), (1, .int (nI ky)), (2, .int (nI md))] := hl
  refine lv_iload_n hx hb dX0_within_0 rfl (lv_at hl 1 rfl) ?_
  refine lv_iconst (v := 0) hx hb dX0_within_1 (by decide) ?_
  refine lv_bipush (v := 11) hx hb dX0_within_2 (by decide) ?_
  refine va_csv ((va_runS (As := [.int (nI ky), .int 0, .int 11]) (rest := []) ⟨hx, hb, hml, hown, hts⟩ (c_X0_requireRange_v l (nI ky) 0 11 (zn_in (n := 11) (by omega) (by decide))) (va_cwS 3 hts gX0_within_X0_requireRange rfl rfl rfl (by decide +kernel) ⟨Nat.le_of_ble_eq_true rfl, Nat.le_of_ble_eq_true rfl⟩) ⟨zT.blind, zT.call⟩ rfl rfl hl.1 rfl (lv_room (Nat.le_of_ble_eq_true rfl)) dX0_within_4 ⟨Nat.zero_le _, Nat.zero_le _⟩).run) (fun _ => ?_)
  refine lv_iload_n hx hb dX0_within_7 rfl (lv_at hl 2 rfl) ?_
  refine lv_iconst (v := 0) hx hb dX0_within_8 (by decide) ?_
  refine lv_bipush (v := 7) hx hb dX0_within_9 (by decide) ?_
  refine va_csv ((va_runS (As := [.int (nI md), .int 0, .int 7]) (rest := []) ⟨hx, hb, hml, hown, hts⟩ (c_X0_requireRange_v l (nI md) 0 7 (zn_in (n := 7) (by omega) (by decide))) (va_cwS 3 hts gX0_within_X0_requireRange rfl rfl rfl (by decide +kernel) ⟨Nat.le_of_ble_eq_true rfl, Nat.le_of_ble_eq_true rfl⟩) ⟨zT.blind, zT.call⟩ rfl rfl hl.1 rfl (lv_room (Nat.le_of_ble_eq_true rfl)) dX0_within_11 ⟨Nat.zero_le _, Nat.zero_le _⟩).run) (fun _ => ?_)
  refine lv_aload_n hx hb dX0_within_14 rfl (lv_at hl 0 rfl) ?_
  refine lv_iload_n hx hb dX0_within_15 rfl (lv_at hl 1 rfl) ?_
  refine lv_iload_n hx hb dX0_within_16 rfl (lv_at hl 2 rfl) ?_
  refine vp_callSi ((va_runV (As := [.int (nI ky), .int (nI md)]) (rest := []) ⟨hx, hb, hml, hown, hts⟩ (c_X0_framesWithin l D N0 cA cL E h d z c ky md hk hm) (cwV 2 hts gX0_within_X0_framesWithin rfl rfl rfl (by decide +kernel) ⟨Nat.le_of_ble_eq_true rfl, Nat.le_of_ble_eq_true rfl⟩) ⟨zPre.blind, va_recv hK hP (ci := 0) (q0 := 0) rfl rfl, zPre.call hN hP hD hK hE hS⟩ rfl rfl hl.1 rfl (lv_room (Nat.le_of_ble_eq_true rfl)) dX0_within_17 ⟨Nat.zero_le _, Nat.zero_le _⟩).run) (fun r_17 h_17 => ?_)
  have h_17 : r_17 = (zW md ky z.2.2.2.2.2.2) := h_17
  subst h_17
  exact W.iret (v := (zW md ky z.2.2.2.2.2.2)) hx hb hr (fun t ht hW => ⟨_, rfl, rfl, ht⟩) (fun _ h9 => nomatch h9) dX0_within_20

set_option maxHeartbeats 4000000 in
set_option maxRecDepth 100000 in
theorem c_X0_bestKey_v (l : Launch) (D : va_G) (N0 : Nat) (cA cL : ClassId) (E : va_W) (h : Nat) (d : Nat → Nat) (z : S7) (c : C5) (md : Nat) (hm : md < 8) : Met l yX0_bestKey wsX0_bestKey ({ frames := 3, cells := 0, slots := 0, locals := 71 }) (va_Pc [.ref h, .int (nI md)] (zPre D N0 cA cL (wX h d cA z c ++ E))) (vp_Si (fun rv => rv = nI (zBk md z.2.2.2.2.2.2))) 0 0 (fun _ => False) := by
  refine Met.ofW (cc := cX0_bestKey) (maxL := 6) (ret := (some .int)) (by decide) rfl ?_
  intro pr e s m ag below meth cd s₁ B hml hv
  obtain ⟨rfl, hN, hP, hD, hK, hE⟩ := hv
  have hx := B.exec
  have hb := B.bytes
  have hr := B.returns
  have hts := atoms_spec (ws := wsX0_bestKey) B.pre
  have hown : s.vm.findClass RX0 = some m.cls := findClass_of_methodNamed B.named
  have hlocks := B.notSynchronized
  have hS : va_S (zA N0) s.heap s.heap [] := va_S.rf
  have hl := lv_entry ([.ref h, .int (nI md)]) (n := 6) (Nat.le_of_ble_eq_true rfl)
  rw [lg_entry_eq]
  generalize (lg_sl ([.ref h, .int (nI md)]) ++ List.replicate (6 - (lg_sl ([.ref h, .int (nI md)])).length) Slot.unset).toArray = ls at hl ⊢
  have hl : lv_has ls 6 [(0, .ref h), (1, .int (nI md))] := hl
  have loop : ∀ (n : Nat) (j : Nat), j ≤ 11 → 12 ≤ j + n → ∀ (ls : Array Slot), lv_has ls 6 [(2, .int (nI (zBkn md z.2.2.2.2.2.2 j))), (3, .int (zW md (zBkn md z.2.2.2.2.2.2 j) z.2.2.2.2.2.2)), (4, .int (nI (j + 1))), (0, .ref h), (1, .int (nI md))] → W pr l e (headSpec wsX0_bestKey ({ frames := 3, cells := 0, slots := 0, locals := 71 })).room s m ([.ref h, .int (nI md)] : List Value).toArray below meth cd s.heap [] 0 0 (MQ below (vp_Si (fun rv => rv = nI (zBk md z.2.2.2.2.2.2))) ([.ref h, .int (nI md)] : List Value).toArray s 0 0 (fun _ => False)) (F0 m 19 ls []) := by
    intro n
    induction n with
    | zero =>
      intro j hj hn
      omega
    | succ n ih =>
      intro j hj hn ls hl
      refine lv_iload hx hb dX0_bestKey_19 (lv_at hl 2 rfl) ?_
      refine lv_bipush (v := 12) hx hb dX0_bestKey_21 (by decide) ?_
      refine lv_icmp_ge (tgt := 53) hx hb dX0_bestKey_23 (by decide) (fun c_23 => ?_) (fun c_23 => ?_)
      · have hj11 : j = 11 := by have := (nI_leI (a := 12) (by decide) (by omega)).mp c_23; omega
        subst hj11
        refine lv_iload_n hx hb dX0_bestKey_53 rfl (lv_at hl 0 rfl) ?_
        exact W.iret (v := (nI (zBkn md z.2.2.2.2.2.2 11))) hx hb hr (fun t ht hW => ⟨_, rfl, rfl, ht⟩) (fun _ h9 => nomatch h9) dX0_bestKey_54
      · have hj11 : j < 11 := by
          rcases Nat.lt_or_ge j 11 with q | q
          · exact q
          · exact absurd ((nI_leI (a := 12) (by decide) (by omega)).mpr (by omega)) c_23
        refine lv_aload_n hx hb dX0_bestKey_26 rfl (lv_at hl 3 rfl) ?_
        refine lv_iload hx hb dX0_bestKey_27 (lv_at hl 2 rfl) ?_
        refine lv_iload_n hx hb dX0_bestKey_29 rfl (lv_at hl 4 rfl) ?_
        refine vp_callSi ((va_runV (As := [.int (nI (j + 1)), .int (nI md)]) (rest := []) ⟨hx, hb, hml, hown, hts⟩ (c_X0_framesWithin l D N0 cA cL E h d z c (j + 1) md (by omega) hm) (cwV 2 hts gX0_bestKey_X0_framesWithin rfl rfl rfl (by decide +kernel) ⟨Nat.le_of_ble_eq_true rfl, Nat.le_of_ble_eq_true rfl⟩) ⟨zPre.blind, va_recv hK hP (ci := 0) (q0 := 0) rfl rfl, zPre.call hN hP hD hK hE hS⟩ rfl rfl hl.1 rfl (lv_room (Nat.le_of_ble_eq_true rfl)) dX0_bestKey_30 ⟨Nat.zero_le _, Nat.zero_le _⟩).run) (fun r_30 h_30 => ?_)
        have h_30 : r_30 = (zW md (j + 1) z.2.2.2.2.2.2) := h_30
        subst h_30
        refine lv_istore (lv' := [(5, .int (zW md (j + 1) z.2.2.2.2.2.2)), (2, .int (nI (zBkn md z.2.2.2.2.2.2 j))), (3, .int (zW md (zBkn md z.2.2.2.2.2.2 j) z.2.2.2.2.2.2)), (4, .int (nI (j + 1))), (0, .ref h), (1, .int (nI md))]) hx hb dX0_bestKey_33 hl (by decide) rfl (fun ls hl => ?_)
        refine lv_iload hx hb dX0_bestKey_35 (lv_at hl 0 rfl) ?_
        refine lv_iload_n hx hb dX0_bestKey_37 rfl (lv_at hl 2 rfl) ?_
        refine lv_icmp_le (tgt := 47) hx hb dX0_bestKey_38 (by decide) (fun c_38 => ?_) (fun c_38 => ?_)
        · refine lv_iinc (v := (nI (j + 1 + 1))) (lv' := [(4, .int (nI (j + 1 + 1))), (5, .int (zW md (j + 1) z.2.2.2.2.2.2)), (2, .int (nI (zBkn md z.2.2.2.2.2.2 j))), (3, .int (zW md (zBkn md z.2.2.2.2.2.2 j) z.2.2.2.2.2.2)), (0, .ref h), (1, .int (nI md))]) hx hb dX0_bestKey_47 hl (k := 3) rfl (z_inc (j + 1) 1) (by decide) rfl (fun ls hl => ?_)
          refine lv_goto (tgt := 19) hx hb dX0_bestKey_50 (by decide) ?_
          have hl : lv_has ls 6 [(4, .int (nI (j + 1 + 1))), (5, .int (zW md (j + 1) z.2.2.2.2.2.2)), (2, .int (nI (zBkn md z.2.2.2.2.2.2 (j + 1)))), (3, .int (zW md (zBkn md z.2.2.2.2.2.2 (j + 1)) z.2.2.2.2.2.2)), (0, .ref h), (1, .int (nI md))] := by
            rw [show ((nI (zBkn md z.2.2.2.2.2.2 (j + 1))) : Int32) = (nI (zBkn md z.2.2.2.2.2.2 j)) from (by rw [show zBkn md z.2.2.2.2.2.2 (j + 1) = zBkn md z.2.2.2.2.2.2 j from if_neg (Int32.not_lt.mpr c_38)]), show ((zW md (zBkn md z.2.2.2.2.2.2 (j + 1)) z.2.2.2.2.2.2) : Int32) = (zW md (zBkn md z.2.2.2.2.2.2 j) z.2.2.2.2.2.2) from (by rw [show zBkn md z.2.2.2.2.2.2 (j + 1) = zBkn md z.2.2.2.2.2.2 j from if_neg (Int32.not_lt.mpr c_38)])]
            exact hl
          exact ih (j + 1) (by omega) (by omega) ls (lv_sub hl [2, 3, 0, 4, 5] rfl)
        · refine lv_iload hx hb dX0_bestKey_41 (lv_at hl 3 rfl) ?_
          refine lv_istore_n (lv' := [(2, .int (nI (j + 1))), (5, .int (zW md (j + 1) z.2.2.2.2.2.2)), (3, .int (zW md (zBkn md z.2.2.2.2.2.2 j) z.2.2.2.2.2.2)), (4, .int (nI (j + 1))), (0, .ref h), (1, .int (nI md))]) hx hb dX0_bestKey_43 rfl hl (by decide) rfl (fun ls hl => ?_)
          refine lv_iload hx hb dX0_bestKey_44 (lv_at hl 1 rfl) ?_
          refine lv_istore_n (lv' := [(3, .int (zW md (j + 1) z.2.2.2.2.2.2)), (2, .int (nI (j + 1))), (5, .int (zW md (j + 1) z.2.2.2.2.2.2)), (4, .int (nI (j + 1))), (0, .ref h), (1, .int (nI md))]) hx hb dX0_bestKey_46 rfl hl (by decide) rfl (fun ls hl => ?_)
          refine lv_iinc (v := (nI (j + 1 + 1))) (lv' := [(4, .int (nI (j + 1 + 1))), (3, .int (zW md (j + 1) z.2.2.2.2.2.2)), (2, .int (nI (j + 1))), (5, .int (zW md (j + 1) z.2.2.2.2.2.2)), (0, .ref h), (1, .int (nI md))]) hx hb dX0_bestKey_47 hl (k := 3) rfl (z_inc (j + 1) 1) (by decide) rfl (fun ls hl => ?_)
          refine lv_goto (tgt := 19) hx hb dX0_bestKey_50 (by decide) ?_
          have hl : lv_has ls 6 [(4, .int (nI (j + 1 + 1))), (3, .int (zW md (zBkn md z.2.2.2.2.2.2 (j + 1)) z.2.2.2.2.2.2)), (2, .int (nI (zBkn md z.2.2.2.2.2.2 (j + 1)))), (5, .int (zW md (j + 1) z.2.2.2.2.2.2)), (0, .ref h), (1, .int (nI md))] := by
            rw [show ((nI (zBkn md z.2.2.2.2.2.2 (j + 1))) : Int32) = (nI (j + 1)) from (by rw [show zBkn md z.2.2.2.2.2.2 (j + 1) = j + 1 from if_pos (Int32.not_le.mp c_38)]), show ((zW md (zBkn md z.2.2.2.2.2.2 (j + 1)) z.2.2.2.2.2.2) : Int32) = (zW md (j + 1) z.2.2.2.2.2.2) from (by rw [show zBkn md z.2.2.2.2.2.2 (j + 1) = j + 1 from if_pos (Int32.not_le.mp c_38)])]
            exact hl
          exact ih (j + 1) (by omega) (by omega) ls (lv_sub hl [2, 1, 0, 4, 5] rfl)
  refine lv_iload_n hx hb dX0_bestKey_0 rfl (lv_at hl 1 rfl) ?_
  refine lv_iconst (v := 0) hx hb dX0_bestKey_1 (by decide) ?_
  refine lv_bipush (v := 7) hx hb dX0_bestKey_2 (by decide) ?_
  refine va_csv ((va_runS (As := [.int (nI md), .int 0, .int 7]) (rest := []) ⟨hx, hb, hml, hown, hts⟩ (c_X0_requireRange_v l (nI md) 0 7 (zn_in (n := 7) (by omega) (by decide))) (va_cwS 3 hts gX0_bestKey_X0_requireRange rfl rfl rfl (by decide +kernel) ⟨Nat.le_of_ble_eq_true rfl, Nat.le_of_ble_eq_true rfl⟩) ⟨zT.blind, zT.call⟩ rfl rfl hl.1 rfl (lv_room (Nat.le_of_ble_eq_true rfl)) dX0_bestKey_4 ⟨Nat.zero_le _, Nat.zero_le _⟩).run) (fun _ => ?_)
  refine lv_iconst (v := 0) hx hb dX0_bestKey_7 (by decide) ?_
  refine lv_istore_n (lv' := [(2, .int 0), (0, .ref h), (1, .int (nI md))]) hx hb dX0_bestKey_8 rfl hl (by decide) rfl (fun ls hl => ?_)
  refine lv_aload_n hx hb dX0_bestKey_9 rfl (lv_at hl 1 rfl) ?_
  refine lv_iconst (v := 0) hx hb dX0_bestKey_10 (by decide) ?_
  refine lv_iload_n hx hb dX0_bestKey_11 rfl (lv_at hl 2 rfl) ?_
  refine vp_callSi ((va_runV (As := [.int 0, .int (nI md)]) (rest := []) ⟨hx, hb, hml, hown, hts⟩ (c_X0_framesWithin l D N0 cA cL E h d z c 0 md (by decide) hm) (cwV 2 hts gX0_bestKey_X0_framesWithin rfl rfl rfl (by decide +kernel) ⟨Nat.le_of_ble_eq_true rfl, Nat.le_of_ble_eq_true rfl⟩) ⟨zPre.blind, va_recv hK hP (ci := 0) (q0 := 0) rfl rfl, zPre.call hN hP hD hK hE hS⟩ rfl rfl hl.1 rfl (lv_room (Nat.le_of_ble_eq_true rfl)) dX0_bestKey_12 ⟨Nat.zero_le _, Nat.zero_le _⟩).run) (fun r_12 h_12 => ?_)
  have h_12 : r_12 = (zW md 0 z.2.2.2.2.2.2) := h_12
  subst h_12
  refine lv_istore_n (lv' := [(3, .int (zW md 0 z.2.2.2.2.2.2)), (2, .int 0), (0, .ref h), (1, .int (nI md))]) hx hb dX0_bestKey_15 rfl hl (by decide) rfl (fun ls hl => ?_)
  refine lv_iconst (v := 1) hx hb dX0_bestKey_16 (by decide) ?_
  refine lv_istore (lv' := [(4, .int 1), (3, .int (zW md 0 z.2.2.2.2.2.2)), (2, .int 0), (0, .ref h), (1, .int (nI md))]) hx hb dX0_bestKey_17 hl (by decide) rfl (fun ls hl => ?_)
  exact loop 12 0 (by decide) (by decide) ls (lv_sub hl [2, 1, 0, 3, 4] rfl)

set_option maxHeartbeats 4000000 in
set_option maxRecDepth 100000 in
theorem c_X0_framesToRung_v (l : Launch) (D : va_G) (N0 : Nat) (cA cL : ClassId) (E : va_W) (h : Nat) (d : Nat → Nat) (z : S7) (c : C5) (w : Int32) (p : Int32) (hc : okC c) (hw : zw w) (hp : zp p) : Met l yX0_framesToRung wsX0_framesToRung ({ frames := 6, cells := 0, slots := 0, locals := 135 }) (va_Pc [.ref h, .int w, .int p] (zPre D N0 cA cL (wX h d cA z c ++ E))) (vp_Si (fun rv => rv = zFR c w.toNatClampNeg p z)) 0 0 (fun _ => False) := by
  refine Met.ofW (cc := cX0_framesToRung) (maxL := 6) (ret := (some .int)) (by decide) rfl ?_
  intro pr e s m ag below meth cd s₁ B hml hv
  obtain ⟨rfl, hN, hP, hD, hK, hE⟩ := hv
  have hx := B.exec
  have hb := B.bytes
  have hr := B.returns
  have hts := atoms_spec (ws := wsX0_framesToRung) B.pre
  have hown : s.vm.findClass RX0 = some m.cls := findClass_of_methodNamed B.named
  have hlocks := B.notSynchronized
  have hS : va_S (zA N0) s.heap s.heap [] := va_S.rf
  have hiw : ∀ w ∈ u_ws RX0 TX0 12, w ∈ wsX0_framesToRung := by decide +kernel
  have hl := lv_entry ([.ref h, .int w, .int p]) (n := 6) (Nat.le_of_ble_eq_true rfl)
  rw [lg_entry_eq]
  generalize (lg_sl ([.ref h, .int w, .int p]) ++ List.replicate (6 - (lg_sl ([.ref h, .int w, .int p])).length) Slot.unset).toArray = ls at hl ⊢
  have hl : lv_has ls 6 [(0, .ref h), (1, .int w), (2, .int p)] := hl
  have loop : ∀ (n : Nat) (f k : Nat) (nn : Int32), f + k = 1000 → f < n → zFf c.2.2.1 p (zNext c (z.1 w.toNatClampNeg) p) f k nn = zFR c w.toNatClampNeg p z → ∀ (ls : Array Slot), lv_has ls 6 [(4, .int nn), (5, .int (nI k)), (3, .int (zNext c (z.1 w.toNatClampNeg) p)), (0, .ref h), (1, .int w), (2, .int p)] → W pr l e (headSpec wsX0_framesToRung ({ frames := 6, cells := 0, slots := 0, locals := 135 })).room s m ([.ref h, .int w, .int p] : List Value).toArray below meth cd s.heap [] 0 0 (MQ below (vp_Si (fun rv => rv = zFR c w.toNatClampNeg p z)) ([.ref h, .int w, .int p] : List Value).toArray s 0 0 (fun _ => False)) (F0 m 32 ls []) := by
    intro n
    induction n with
    | zero =>
      intro f k nn hf hn he
      omega
    | succ n ih =>
      intro f k nn hf hn he ls hl
      refine lv_iload hx hb dX0_framesToRung_32 (lv_at hl 1 rfl) ?_
      refine lv_sipush (v := 999) hx hb dX0_framesToRung_34 (by decide) ?_
      refine lv_icmp_gt (tgt := 68) hx hb dX0_framesToRung_37 (by decide) (fun c_37 => ?_) (fun c_37 => ?_)
      · have f0 : f = 0 := by have := (nI_ltI (a := 999) (by decide) (by omega)).mp c_37; omega
        subst f0
        refine lv_iconst (v := (-1)) hx hb dX0_framesToRung_68 (by decide) ?_
        exact W.iret (v := (-1)) hx hb hr (fun t ht hW => ⟨_, rfl, he, ht⟩) (fun _ h9 => nomatch h9) dX0_framesToRung_69
      · obtain ⟨g, rfl⟩ : ∃ g, f = g + 1 := ⟨f - 1, by have : ¬ f = 0 := fun q => c_37 ((nI_ltI (a := 999) (by decide) (by omega)).mpr (by omega)); omega⟩
        refine lv_iload_n hx hb dX0_framesToRung_40 rfl (lv_at hl 5 rfl) ?_
        refine lv_iload hx hb dX0_framesToRung_41 (lv_at hl 0 rfl) ?_
        refine lv_iadd hx hb dX0_framesToRung_43 ?_
        refine lv_iload_n hx hb dX0_framesToRung_44 rfl (lv_at hl 2 rfl) ?_
        refine lv_icmp_ne (tgt := 51) hx hb dX0_framesToRung_45 (by decide) (fun c_45 => ?_) (fun c_45 => ?_)
        · refine lv_aload_n hx hb dX0_framesToRung_51 rfl (lv_at hl 3 rfl) ?_
          refine lv_iload hx hb dX0_framesToRung_52 (lv_at hl 0 rfl) ?_
          refine lv_iload_n hx hb dX0_framesToRung_54 rfl (lv_at hl 2 rfl) ?_
          refine lv_iload_n hx hb dX0_framesToRung_55 rfl (lv_at hl 5 rfl) ?_
          refine lv_isub hx hb dX0_framesToRung_56 ?_
          refine vp_callSi ((va_runV (As := [.int nn, .int ((zNext c (z.1 w.toNatClampNeg) p) - p)]) (rest := []) ⟨hx, hb, hml, hown, hts⟩ (c_X0_nudgeTowards l D N0 cA cL E h d z c nn ((zNext c (z.1 w.toNatClampNeg) p) - p)) (cwV 2 hts gX0_framesToRung_X0_nudgeTowards rfl rfl rfl (by decide +kernel) ⟨Nat.le_of_ble_eq_true rfl, Nat.le_of_ble_eq_true rfl⟩) ⟨zPre.blind, va_recv hK hP (ci := 0) (q0 := 0) rfl rfl, zPre.call hN hP hD hK hE hS⟩ rfl rfl hl.1 rfl (lv_room (Nat.le_of_ble_eq_true rfl)) dX0_framesToRung_57 ⟨Nat.zero_le _, Nat.zero_le _⟩).run) (fun r_57 h_57 => ?_)
          have h_57 : r_57 = (zTow c.2.2.1 nn ((zNext c (z.1 w.toNatClampNeg) p) - p)) := h_57
          subst h_57
          refine lv_istore (lv' := [(4, .int (zTow c.2.2.1 nn ((zNext c (z.1 w.toNatClampNeg) p) - p))), (5, .int (nI k)), (3, .int (zNext c (z.1 w.toNatClampNeg) p)), (0, .ref h), (1, .int w), (2, .int p)]) hx hb dX0_framesToRung_60 hl (by decide) rfl (fun ls hl => ?_)
          refine lv_iinc (v := (nI (k + 1))) (lv' := [(5, .int (nI (k + 1))), (4, .int (zTow c.2.2.1 nn ((zNext c (z.1 w.toNatClampNeg) p) - p))), (3, .int (zNext c (z.1 w.toNatClampNeg) p)), (0, .ref h), (1, .int w), (2, .int p)]) hx hb dX0_framesToRung_62 hl (k := 1) rfl (z_inc k 1) (by decide) rfl (fun ls hl => ?_)
          refine lv_goto (tgt := 32) hx hb dX0_framesToRung_65 (by decide) ?_
          exact ih g (k + 1) _ (by omega) (by omega) ((if_neg c_45).symm.trans he) ls (lv_sub hl [1, 0, 2, 3, 4, 5] rfl)
        · refine lv_iload hx hb dX0_framesToRung_48 (lv_at hl 1 rfl) ?_
          exact W.iret (v := (nI k)) hx hb hr (fun t ht hW => ⟨_, rfl, (if_pos c_45).symm.trans he, ht⟩) (fun _ h9 => nomatch h9) dX0_framesToRung_50
  refine lv_iload_n hx hb dX0_framesToRung_0 rfl (lv_at hl 1 rfl) ?_
  refine va_csv ((va_runS (As := [.int w]) (rest := []) ⟨hx, hb, hml, hown, hts⟩ (c_X0_requireWren_v l w hw) (va_cwS 1 hts gX0_framesToRung_X0_requireWren rfl rfl rfl (by decide +kernel) ⟨Nat.le_of_ble_eq_true rfl, Nat.le_of_ble_eq_true rfl⟩) ⟨zT.blind, zT.call⟩ rfl rfl hl.1 rfl (lv_room (Nat.le_of_ble_eq_true rfl)) dX0_framesToRung_1 ⟨Nat.zero_le _, Nat.zero_le _⟩).run) (fun _ => ?_)
  refine lv_iload_n hx hb dX0_framesToRung_4 rfl (lv_at hl 2 rfl) ?_
  refine va_csv ((va_runS (As := [.int p]) (rest := []) ⟨hx, hb, hml, hown, hts⟩ (c_X0_requirePitch_v l p hp) (va_cwS 1 hts gX0_framesToRung_X0_requirePitch rfl rfl rfl (by decide +kernel) ⟨Nat.le_of_ble_eq_true rfl, Nat.le_of_ble_eq_true rfl⟩) ⟨zT.blind, zT.call⟩ rfl rfl hl.1 rfl (lv_room (Nat.le_of_ble_eq_true rfl)) dX0_framesToRung_5 ⟨Nat.zero_le _, Nat.zero_le _⟩).run) (fun _ => ?_)
  refine lv_aload_n hx hb dX0_framesToRung_8 rfl (lv_at hl 0 rfl) ?_
  refine lv_aload_n hx hb dX0_framesToRung_9 rfl (lv_at hl 0 rfl) ?_
  refine va_get (D := D) (ci := 0) (v := .ref (d 0)) (C := RX0) (T := TX0) (N := 12) hx hb hts hiw hown hK hP 0 rfl rfl 0 (by decide) (hts (.fieldLink RX0 9 "TunedWrens" "rungOfWren" "[I") (by decide +kernel)) (fun _ h9 => h9) rfl dX0_framesToRung_10 ?_
  refine lv_iload_n hx hb dX0_framesToRung_13 rfl (lv_at hl 1 rfl) ?_
  refine va_iald hx hb hK hP 1 0 rfl rfl (zw_in hw) dX0_framesToRung_14 ?_
  refine lv_iload_n hx hb dX0_framesToRung_15 rfl (lv_at hl 2 rfl) ?_
  refine vp_callSi ((va_runV (As := [.int (z.1 w.toNatClampNeg), .int p]) (rest := []) ⟨hx, hb, hml, hown, hts⟩ (c_X0_nextRung l D N0 cA cL E h d z c (z.1 w.toNatClampNeg) p hc hp) (cwV 2 hts gX0_framesToRung_X0_nextRung rfl rfl rfl (by decide +kernel) ⟨Nat.le_of_ble_eq_true rfl, Nat.le_of_ble_eq_true rfl⟩) ⟨zPre.blind, va_recv hK hP (ci := 0) (q0 := 0) rfl rfl, zPre.call hN hP hD hK hE hS⟩ rfl rfl hl.1 rfl (lv_room (Nat.le_of_ble_eq_true rfl)) dX0_framesToRung_16 ⟨Nat.zero_le _, Nat.zero_le _⟩).run) (fun r_16 h_16 => ?_)
  have h_16 : r_16 = (zNext c (z.1 w.toNatClampNeg) p) := h_16
  subst h_16
  refine lv_istore_n (lv' := [(3, .int (zNext c (z.1 w.toNatClampNeg) p)), (0, .ref h), (1, .int w), (2, .int p)]) hx hb dX0_framesToRung_19 rfl hl (by decide) rfl (fun ls hl => ?_)
  refine lv_aload_n hx hb dX0_framesToRung_20 rfl (lv_at hl 1 rfl) ?_
  refine lv_iload_n hx hb dX0_framesToRung_21 rfl (lv_at hl 2 rfl) ?_
  refine lv_iload_n hx hb dX0_framesToRung_22 rfl (lv_at hl 0 rfl) ?_
  refine lv_iload_n hx hb dX0_framesToRung_23 rfl (lv_at hl 3 rfl) ?_
  refine vp_callSi ((va_runV (As := [.int w, .int (zNext c (z.1 w.toNatClampNeg) p), .int p]) (rest := []) ⟨hx, hb, hml, hown, hts⟩ (c_X0_nextNudge l D N0 cA cL E h d z c w (zNext c (z.1 w.toNatClampNeg) p) p hw) (cwV 3 hts gX0_framesToRung_X0_nextNudge rfl rfl rfl (by decide +kernel) ⟨Nat.le_of_ble_eq_true rfl, Nat.le_of_ble_eq_true rfl⟩) ⟨zPre.blind, va_recv hK hP (ci := 0) (q0 := 0) rfl rfl, zPre.call hN hP hD hK hE hS⟩ rfl rfl hl.1 rfl (lv_room (Nat.le_of_ble_eq_true rfl)) dX0_framesToRung_24 ⟨Nat.zero_le _, Nat.zero_le _⟩).run) (fun r_24 h_24 => ?_)
  have h_24 : r_24 = (zNud c (z.1 w.toNatClampNeg) (z.2.1 w.toNatClampNeg) (zNext c (z.1 w.toNatClampNeg) p) p) := h_24
  subst h_24
  refine lv_istore (lv' := [(4, .int (zNud c (z.1 w.toNatClampNeg) (z.2.1 w.toNatClampNeg) (zNext c (z.1 w.toNatClampNeg) p) p)), (3, .int (zNext c (z.1 w.toNatClampNeg) p)), (0, .ref h), (1, .int w), (2, .int p)]) hx hb dX0_framesToRung_27 hl (by decide) rfl (fun ls hl => ?_)
  refine lv_iconst (v := 1) hx hb dX0_framesToRung_29 (by decide) ?_
  refine lv_istore (lv' := [(5, .int 1), (4, .int (zNud c (z.1 w.toNatClampNeg) (z.2.1 w.toNatClampNeg) (zNext c (z.1 w.toNatClampNeg) p) p)), (3, .int (zNext c (z.1 w.toNatClampNeg) p)), (0, .ref h), (1, .int w), (2, .int p)]) hx hb dX0_framesToRung_30 hl (by decide) rfl (fun ls hl => ?_)
  exact loop 1000 999 1 _ (by decide) (by decide) rfl ls (lv_sub hl [1, 0, 2, 3, 4, 5] rfl)
end
section
def zPx (N0 : Nat) (Hx : Heap) (U : State) : Prop := U.heap = Hx ∧ zPe N0 U
theorem zPx.blind {N0 : Nat} {Hx : Heap} {av : List Value} : FrameBlind (va_Pc av (fun U => U.heap = Hx ∧ zPe N0 U)) := by
  intro a U g mk h
  exact ⟨h.1, h.2.1, h.2.2.1, zEnv.same (u := U) (U := U.calling g mk a) rfl rfl h.2.2.2⟩
theorem zPx.call {N0 : Nat} {av : List Value} {s : State} {H : Heap} {locs : List Loc} (hN : N0 ≤ s.heap.size) (hE : zEnv N0 s) (hS : va_S (zA N0) s.heap H locs) : ∀ U : State, U.heap = H → s.WarmedH U.vm → va_Pc av (fun U => U.heap = H ∧ zPe N0 U) av.toArray U := fun U hU hW => ⟨rfl, hU, by rw [hU]; exact Nat.le_trans hN hS.1, hE.call hS hW hU⟩
theorem zPw.blind {D : va_G} {N0 : Nat} {cA cL : ClassId} {W : va_W} {Hx : Heap} {av : List Value} : FrameBlind (va_Pc av (fun U => U.heap = Hx ∧ zPre D N0 cA cL W U)) := by
  intro a U g mk h
  obtain ⟨h9, h8, h0, h1, h2, h3, h4⟩ := h
  exact ⟨h9, h8, h0, h1, h2, va_K.moved (u := U) (U := U.calling g mk a) (Vm.Alike.refl U.vm) h3, zEnv.same (u := U) (U := U.calling g mk a) rfl rfl h4⟩
theorem zx_otI110 : ∀ w ∈ Cond.classLink RX0 106 xI :: Cond.initialized xI :: vx_atS RX0 110 xI ["java/lang/RuntimeException", "java/lang/Exception"], vx_ot w = true := by decide +kernel
theorem zx_otO79 : ∀ w ∈ Cond.classLink RX0 75 xO :: Cond.initialized xO :: vx_atS RX0 79 xO ["java/lang/RuntimeException", "java/lang/Exception"], vx_ot w = true := by decide +kernel
theorem zx_in_X0_requireRange : ∀ w ∈ (vx_atS RX0 110 xI ["java/lang/RuntimeException", "java/lang/Exception"]).filter goodWord, w ∈ wsX0_requireRange := fun _ h => List.mem_cons_of_mem _ (List.mem_append_right _ h)
theorem zx_in_X0_requireWren : ∀ w ∈ (vx_atS RX0 79 xO ["java/lang/RuntimeException", "java/lang/Exception"]).filter goodWord, w ∈ wsX0_requireWren := fun _ h => List.mem_cons_of_mem _ (List.mem_append_right _ h)
theorem zx_in_X0_rung : ∀ w ∈ (vx_atS RX0 79 xO ["java/lang/RuntimeException", "java/lang/Exception"]).filter goodWord, w ∈ wsX0_rung := fun _ h => List.mem_cons_of_mem _ (List.mem_append_right _ h)
theorem zx_in_X0_sung : ∀ w ∈ (vx_atS RX0 79 xO ["java/lang/RuntimeException", "java/lang/Exception"]).filter goodWord, w ∈ wsX0_sung := fun _ h => List.mem_cons_of_mem _ (List.mem_append_right _ h)
theorem zw_of {w : Int32} (h0 : 0 ≤ w) (h : w < 4) : zw w := by
  refine ⟨h0, ?_⟩
  rw [fa_lt] at h; rw [fa_le]
  have e4 : (4 : Int32).toInt = 4 := rfl
  have e3 : (3 : Int32).toInt = 3 := rfl
  omega
theorem zk_of {w : Int32} (h0 : 0 ≤ w) (h : w < 12) : 0 ≤ w ∧ w ≤ 11 := by
  refine ⟨h0, ?_⟩
  rw [fa_lt] at h; rw [fa_le]
  have e4 : (12 : Int32).toInt = 12 := rfl
  have e3 : (11 : Int32).toInt = 11 := rfl
  omega

set_option maxHeartbeats 4000000 in
set_option maxRecDepth 100000 in
theorem x_X0_requireRange (l : Launch) (hst : l.stackTraces = false) (N0 : Nat) (Hx : Heap) (v : Int32) (a : Int32) (b : Int32) (hv : ¬ (a ≤ v ∧ v ≤ b)) : vx_Met l yX0_requireRange wsX0_requireRange ({ frames := 6, cells := 1, slots := 6, locals := 82 }) (va_Pc [.int v, .int a, .int b] (fun U => U.heap = Hx ∧ zPe N0 U)) (va_Qv (fun (_ : Unit) => False) (fun _ _ => True) (zA N0)) (vx_X (fun (_ : Unit) => True) (fun E _ t => E = xI ∧ Hx.size ≤ t.heap.size ∧ ∀ q : Nat, q < Hx.size → t.heap[q]? = Hx[q]?) (zA N0)) 1 6 (zA N0) := by
  refine vx_ofW (cc := cX0_requireRange) (maxL := 3) (ret := none) (by decide) rfl ?_
  intro pr e s m ag below meth cd s₁ B hml hnt hv
  obtain ⟨rfl, rfl, hN, hE⟩ := hv
  have hx := B.exec
  have hb := B.bytes
  have hts := atoms_spec (ws := wsX0_requireRange) B.pre
  have hown : s.vm.findClass RX0 = some m.cls := findClass_of_methodNamed B.named
  have hlocks := B.notSynchronized
  have hS : va_S (zA N0) s.heap s.heap [] := va_S.rf
  have hl := lv_entry ([.int v, .int a, .int b]) (n := 3) (Nat.le_of_ble_eq_true rfl)
  rw [lg_entry_eq]
  generalize (lg_sl ([.int v, .int a, .int b]) ++ List.replicate (3 - (lg_sl ([.int v, .int a, .int b])).length) Slot.unset).toArray = ls at hl ⊢
  have hl : lv_has ls 3 [(0, .int v), (1, .int a), (2, .int b)] := hl
  refine lv_iload_n hx hb dX0_requireRange_0 rfl (lv_at hl 0 rfl) ?_
  refine lv_iload_n hx hb dX0_requireRange_1 rfl (lv_at hl 1 rfl) ?_
  refine lv_icmp_lt (tgt := 10) hx hb dX0_requireRange_2 (by decide) (fun c_2 => ?_) (fun c_2 => ?_)
  · obtain ⟨sa, hsa⟩ := hE.2.2.2.1
    have hat : ∀ w ∈ vx_atS RX0 110 xI ["java/lang/RuntimeException", "java/lang/Exception"], w.before _ s = true := vx_hat (fun w h9 => hts w (zx_in_X0_requireRange w h9)) zx_woI (hE.2.2.2.2.2.2.2.2.2.use)
    exact vx_throwS (cls := xI) (names := ["java/lang/RuntimeException", "java/lang/Exception"]) (ik := 106) (is := 108) (ic := 110) hx hb hst hown (by decide +kernel) (by decide +kernel) (hts (.classLink RX0 106 xI) (by decide +kernel)) (hts (.initialized xI) (by decide +kernel)) hsa hat zx_otI110 hE.2.1 hE.2.2.1 hS (hl.1.trans hml.symm) dX0_requireRange_10 dX0_requireRange_13 dX0_requireRange_14 dX0_requireRange_16 dX0_requireRange_19 (fun x9 h9 => (hnt x9 h9).elim) (Nat.le_of_ble_eq_true rfl) (Nat.le_of_ble_eq_true rfl) (Nat.le_of_ble_eq_true rfl) (Nat.le_of_ble_eq_true rfl) hlocks (fun t _ h8 h9 => ⟨(), trivial, ⟨rfl, h8, h9⟩, h8, fun q h6 _ => h9 q h6⟩) hS.2.2 (Nat.le_refl _) (Nat.le_refl _)
  · refine lv_iload_n hx hb dX0_requireRange_5 rfl (lv_at hl 0 rfl) ?_
    refine lv_iload_n hx hb dX0_requireRange_6 rfl (lv_at hl 2 rfl) ?_
    refine lv_icmp_le (tgt := 20) hx hb dX0_requireRange_7 (by decide) (fun c_7 => ?_) (fun c_7 => ?_)
    · exact absurd ⟨Int32.not_lt.mp c_2, c_7⟩ hv
    · obtain ⟨sa, hsa⟩ := hE.2.2.2.1
      have hat : ∀ w ∈ vx_atS RX0 110 xI ["java/lang/RuntimeException", "java/lang/Exception"], w.before _ s = true := vx_hat (fun w h9 => hts w (zx_in_X0_requireRange w h9)) zx_woI (hE.2.2.2.2.2.2.2.2.2.use)
      exact vx_throwS (cls := xI) (names := ["java/lang/RuntimeException", "java/lang/Exception"]) (ik := 106) (is := 108) (ic := 110) hx hb hst hown (by decide +kernel) (by decide +kernel) (hts (.classLink RX0 106 xI) (by decide +kernel)) (hts (.initialized xI) (by decide +kernel)) hsa hat zx_otI110 hE.2.1 hE.2.2.1 hS (hl.1.trans hml.symm) dX0_requireRange_10 dX0_requireRange_13 dX0_requireRange_14 dX0_requireRange_16 dX0_requireRange_19 (fun x9 h9 => (hnt x9 h9).elim) (Nat.le_of_ble_eq_true rfl) (Nat.le_of_ble_eq_true rfl) (Nat.le_of_ble_eq_true rfl) (Nat.le_of_ble_eq_true rfl) hlocks (fun t _ h8 h9 => ⟨(), trivial, ⟨rfl, h8, h9⟩, h8, fun q h6 _ => h9 q h6⟩) hS.2.2 (Nat.le_refl _) (Nat.le_refl _)

set_option maxHeartbeats 4000000 in
set_option maxRecDepth 100000 in
theorem x_X0_requireWren (l : Launch) (hst : l.stackTraces = false) (N0 : Nat) (Hx : Heap) (w : Int32) (hw : ¬ zw w) : vx_Met l yX0_requireWren wsX0_requireWren ({ frames := 6, cells := 1, slots := 6, locals := 82 }) (va_Pc [.int w] (fun U => U.heap = Hx ∧ zPe N0 U)) (va_Qv (fun (_ : Unit) => False) (fun _ _ => True) (zA N0)) (vx_X (fun (_ : Unit) => True) (fun E _ t => E = xO ∧ Hx.size ≤ t.heap.size ∧ ∀ q : Nat, q < Hx.size → t.heap[q]? = Hx[q]?) (zA N0)) 1 6 (zA N0) := by
  refine vx_ofW (cc := cX0_requireWren) (maxL := 1) (ret := none) (by decide) rfl ?_
  intro pr e s m ag below meth cd s₁ B hml hnt hv
  obtain ⟨rfl, rfl, hN, hE⟩ := hv
  have hx := B.exec
  have hb := B.bytes
  have hts := atoms_spec (ws := wsX0_requireWren) B.pre
  have hown : s.vm.findClass RX0 = some m.cls := findClass_of_methodNamed B.named
  have hlocks := B.notSynchronized
  have hS : va_S (zA N0) s.heap s.heap [] := va_S.rf
  have hl := lv_entry ([.int w]) (n := 1) (Nat.le_of_ble_eq_true rfl)
  rw [lg_entry_eq]
  generalize (lg_sl ([.int w]) ++ List.replicate (1 - (lg_sl ([.int w])).length) Slot.unset).toArray = ls at hl ⊢
  have hl : lv_has ls 1 [(0, .int w)] := hl
  refine lv_iload_n hx hb dX0_requireWren_0 rfl (lv_at hl 0 rfl) ?_
  refine lv_if_lt (tgt := 9) hx hb dX0_requireWren_1 (by decide) (fun c_1 => ?_) (fun c_1 => ?_)
  · obtain ⟨sa, hsa⟩ := hE.2.2.2.2.1
    have hat : ∀ w ∈ vx_atS RX0 79 xO ["java/lang/RuntimeException", "java/lang/Exception"], w.before _ s = true := vx_hat (fun w h9 => hts w (zx_in_X0_requireWren w h9)) zx_woO (hE.2.2.2.2.2.2.2.2.2.use)
    exact vx_throwS (cls := xO) (names := ["java/lang/RuntimeException", "java/lang/Exception"]) (ik := 75) (is := 104) (ic := 79) hx hb hst hown (by decide +kernel) (by decide +kernel) (hts (.classLink RX0 75 xO) (by decide +kernel)) (hts (.initialized xO) (by decide +kernel)) hsa hat zx_otO79 hE.2.1 hE.2.2.1 hS (hl.1.trans hml.symm) dX0_requireWren_9 dX0_requireWren_12 dX0_requireWren_13 dX0_requireWren_15 dX0_requireWren_18 (fun x9 h9 => (hnt x9 h9).elim) (Nat.le_of_ble_eq_true rfl) (Nat.le_of_ble_eq_true rfl) (Nat.le_of_ble_eq_true rfl) (Nat.le_of_ble_eq_true rfl) hlocks (fun t _ h8 h9 => ⟨(), trivial, ⟨rfl, h8, h9⟩, h8, fun q h6 _ => h9 q h6⟩) hS.2.2 (Nat.le_refl _) (Nat.le_refl _)
  · refine lv_iload_n hx hb dX0_requireWren_4 rfl (lv_at hl 0 rfl) ?_
    refine lv_iconst (v := 4) hx hb dX0_requireWren_5 (by decide) ?_
    refine lv_icmp_lt (tgt := 19) hx hb dX0_requireWren_6 (by decide) (fun c_6 => ?_) (fun c_6 => ?_)
    · exact absurd (zw_of (Int32.not_lt.mp c_1) c_6) hw
    · obtain ⟨sa, hsa⟩ := hE.2.2.2.2.1
      have hat : ∀ w ∈ vx_atS RX0 79 xO ["java/lang/RuntimeException", "java/lang/Exception"], w.before _ s = true := vx_hat (fun w h9 => hts w (zx_in_X0_requireWren w h9)) zx_woO (hE.2.2.2.2.2.2.2.2.2.use)
      exact vx_throwS (cls := xO) (names := ["java/lang/RuntimeException", "java/lang/Exception"]) (ik := 75) (is := 104) (ic := 79) hx hb hst hown (by decide +kernel) (by decide +kernel) (hts (.classLink RX0 75 xO) (by decide +kernel)) (hts (.initialized xO) (by decide +kernel)) hsa hat zx_otO79 hE.2.1 hE.2.2.1 hS (hl.1.trans hml.symm) dX0_requireWren_9 dX0_requireWren_12 dX0_requireWren_13 dX0_requireWren_15 dX0_requireWren_18 (fun x9 h9 => (hnt x9 h9).elim) (Nat.le_of_ble_eq_true rfl) (Nat.le_of_ble_eq_true rfl) (Nat.le_of_ble_eq_true rfl) (Nat.le_of_ble_eq_true rfl) hlocks (fun t _ h8 h9 => ⟨(), trivial, ⟨rfl, h8, h9⟩, h8, fun q h6 _ => h9 q h6⟩) hS.2.2 (Nat.le_refl _) (Nat.le_refl _)

set_option maxHeartbeats 4000000 in
set_option maxRecDepth 100000 in
theorem x_X0_requirePitch (l : Launch) (hst : l.stackTraces = false) (N0 : Nat) (Hx : Heap) (p : Int32) (hp : ¬ zp p) : vx_Met l yX0_requirePitch wsX0_requirePitch ({ frames := 7, cells := 1, slots := 6, locals := 104 }) (va_Pc [.int p] (fun U => U.heap = Hx ∧ zPe N0 U)) (va_Qv (fun (_ : Unit) => False) (fun _ _ => True) (zA N0)) (vx_X (fun (_ : Unit) => True) (fun E _ t => E = xI ∧ Hx.size ≤ t.heap.size ∧ ∀ q : Nat, q < Hx.size → t.heap[q]? = Hx[q]?) (zA N0)) 1 6 (zA N0) := by
  refine vx_ofW (cc := cX0_requirePitch) (maxL := 1) (ret := none) (by decide) rfl ?_
  intro pr e s m ag below meth cd s₁ B hml hnt hv
  obtain ⟨rfl, rfl, hN, hE⟩ := hv
  have hx := B.exec
  have hb := B.bytes
  have hts := atoms_spec (ws := wsX0_requirePitch) B.pre
  have hown : s.vm.findClass RX0 = some m.cls := findClass_of_methodNamed B.named
  have hlocks := B.notSynchronized
  have hS : va_S (zA N0) s.heap s.heap [] := va_S.rf
  have hl := lv_entry ([.int p]) (n := 1) (Nat.le_of_ble_eq_true rfl)
  rw [lg_entry_eq]
  generalize (lg_sl ([.int p]) ++ List.replicate (1 - (lg_sl ([.int p])).length) Slot.unset).toArray = ls at hl ⊢
  have hl : lv_has ls 1 [(0, .int p)] := hl
  refine lv_iload_n hx hb dX0_requirePitch_0 rfl (lv_at hl 0 rfl) ?_
  refine lv_iconst (v := 0) hx hb dX0_requirePitch_1 (by decide) ?_
  refine lv_sipush (v := 12000) hx hb dX0_requirePitch_2 (by decide) ?_
  refine vx_callv (vx_runS (As := [.int p, .int 0, .int 12000]) (rest := []) ⟨hx, hb, hml, hown, hts⟩ (x_X0_requireRange l hst N0 s.heap p 0 12000 hp) (va_cwS 3 hts gX0_requirePitch_X0_requireRange rfl rfl rfl (by decide +kernel) ⟨Nat.le_of_ble_eq_true rfl, Nat.le_of_ble_eq_true rfl⟩) ⟨zPx.blind, zPx.call hN hE hS⟩ rfl rfl hl.1 rfl (lv_room (Nat.le_of_ble_eq_true rfl)) dX0_requirePitch_5 ⟨Nat.le_refl _, Nat.le_refl _⟩) hS (fun _ _ h9 => h9) (fun _ h9 => h9) (fun _ _ h9 => h9) (fun E ce q9 u t H locs ht hvm hp hB hz1 hk1 hS hce hcv hcl => ?_) (fun u t H locs ht hvm hp hB hz1 hk1 hS => hp.elim)
  obtain ⟨rfl, hB2, hB3⟩ := hB
  exact vx_out (fun x9 h9 => (hnt x9 h9).elim) hlocks hce hcv hcl (fun t' h1 h2 => ⟨(), trivial, ⟨rfl, by rw [h1, ← ht]; exact hB2, fun q hq => by rw [h1, ← ht]; exact hB3 q hq⟩, hS.F h1⟩) hS.2.2 (Nat.le_refl _) (Nat.le_refl _)

set_option maxHeartbeats 4000000 in
set_option maxRecDepth 100000 in
theorem x_X0_setScale_1 (l : Launch) (hst : l.stackTraces = false) (N0 : Nat) (Hx : Heap) (h : Nat) (key : Int32) (md : Int32) (h1 : ¬ (0 ≤ key ∧ key ≤ 11)) : vx_Met l yX0_setScale wsX0_setScale ({ frames := 8, cells := 1, slots := 6, locals := 124 }) (va_Pc [.ref h, .int key, .int md] (fun U => U.heap = Hx ∧ zPe N0 U)) (va_Qi (fun (_ : Int32) (_ : Unit) => False) (fun _ _ => True) (zA N0)) (vx_X (fun (_ : Unit) => True) (fun E _ t => E = xI ∧ Hx.size ≤ t.heap.size ∧ ∀ q : Nat, q < Hx.size → t.heap[q]? = Hx[q]?) (zA N0)) 1 6 (zA N0) := by
  refine vx_ofW (cc := cX0_setScale) (maxL := 5) (ret := (some .int)) (by decide) rfl ?_
  intro pr e s m ag below meth cd s₁ B hml hnt hv
  obtain ⟨rfl, rfl, hN, hE⟩ := hv
  have hx := B.exec
  have hb := B.bytes
  have hts := atoms_spec (ws := wsX0_setScale) B.pre
  have hown : s.vm.findClass RX0 = some m.cls := findClass_of_methodNamed B.named
  have hlocks := B.notSynchronized
  have hS : va_S (zA N0) s.heap s.heap [] := va_S.rf
  have hl := lv_entry ([.ref h, .int key, .int md]) (n := 5) (Nat.le_of_ble_eq_true rfl)
  rw [lg_entry_eq]
  generalize (lg_sl ([.ref h, .int key, .int md]) ++ List.replicate (5 - (lg_sl ([.ref h, .int key, .int md])).length) Slot.unset).toArray = ls at hl ⊢
  have hl : lv_has ls 5 [(0, .ref h), (1, .int key), (2, .int md)] := hl
  refine lv_iload_n hx hb dX0_setScale_0 rfl (lv_at hl 1 rfl) ?_
  refine lv_iconst (v := 0) hx hb dX0_setScale_1 (by decide) ?_
  refine lv_bipush (v := 11) hx hb dX0_setScale_2 (by decide) ?_
  refine vx_callv (vx_runS (As := [.int key, .int 0, .int 11]) (rest := []) ⟨hx, hb, hml, hown, hts⟩ (x_X0_requireRange l hst N0 s.heap key 0 11 h1) (va_cwS 3 hts gX0_setScale_X0_requireRange rfl rfl rfl (by decide +kernel) ⟨Nat.le_of_ble_eq_true rfl, Nat.le_of_ble_eq_true rfl⟩) ⟨zPx.blind, zPx.call hN hE hS⟩ rfl rfl hl.1 rfl (lv_room (Nat.le_of_ble_eq_true rfl)) dX0_setScale_4 ⟨Nat.le_refl _, Nat.le_refl _⟩) hS (fun _ _ h9 => h9) (fun _ h9 => h9) (fun _ _ h9 => h9) (fun E ce q9 u t H locs ht hvm hp hB hz1 hk1 hS hce hcv hcl => ?_) (fun u t H locs ht hvm hp hB hz1 hk1 hS => hp.elim)
  obtain ⟨rfl, hB2, hB3⟩ := hB
  exact vx_out (fun x9 h9 => (hnt x9 h9).elim) hlocks hce hcv hcl (fun t' h1 h2 => ⟨(), trivial, ⟨rfl, by rw [h1, ← ht]; exact hB2, fun q hq => by rw [h1, ← ht]; exact hB3 q hq⟩, hS.F h1⟩) hS.2.2 (Nat.le_refl _) (Nat.le_refl _)

set_option maxHeartbeats 4000000 in
set_option maxRecDepth 100000 in
theorem x_X0_setScale_2 (l : Launch) (hst : l.stackTraces = false) (N0 : Nat) (Hx : Heap) (h : Nat) (key : Int32) (md : Int32) (h1 : 0 ≤ key ∧ key ≤ 11) (h2 : ¬ (0 ≤ md ∧ md ≤ 7)) : vx_Met l yX0_setScale wsX0_setScale ({ frames := 8, cells := 1, slots := 6, locals := 124 }) (va_Pc [.ref h, .int key, .int md] (fun U => U.heap = Hx ∧ zPe N0 U)) (va_Qi (fun (_ : Int32) (_ : Unit) => False) (fun _ _ => True) (zA N0)) (vx_X (fun (_ : Unit) => True) (fun E _ t => E = xI ∧ Hx.size ≤ t.heap.size ∧ ∀ q : Nat, q < Hx.size → t.heap[q]? = Hx[q]?) (zA N0)) 1 6 (zA N0) := by
  refine vx_ofW (cc := cX0_setScale) (maxL := 5) (ret := (some .int)) (by decide) rfl ?_
  intro pr e s m ag below meth cd s₁ B hml hnt hv
  obtain ⟨rfl, rfl, hN, hE⟩ := hv
  have hx := B.exec
  have hb := B.bytes
  have hts := atoms_spec (ws := wsX0_setScale) B.pre
  have hown : s.vm.findClass RX0 = some m.cls := findClass_of_methodNamed B.named
  have hlocks := B.notSynchronized
  have hS : va_S (zA N0) s.heap s.heap [] := va_S.rf
  have hl := lv_entry ([.ref h, .int key, .int md]) (n := 5) (Nat.le_of_ble_eq_true rfl)
  rw [lg_entry_eq]
  generalize (lg_sl ([.ref h, .int key, .int md]) ++ List.replicate (5 - (lg_sl ([.ref h, .int key, .int md])).length) Slot.unset).toArray = ls at hl ⊢
  have hl : lv_has ls 5 [(0, .ref h), (1, .int key), (2, .int md)] := hl
  refine lv_iload_n hx hb dX0_setScale_0 rfl (lv_at hl 1 rfl) ?_
  refine lv_iconst (v := 0) hx hb dX0_setScale_1 (by decide) ?_
  refine lv_bipush (v := 11) hx hb dX0_setScale_2 (by decide) ?_
  refine va_csv ((va_runS (As := [.int key, .int 0, .int 11]) (rest := []) ⟨hx, hb, hml, hown, hts⟩ (c_X0_requireRange_v l key 0 11 h1) (va_cwS 3 hts gX0_setScale_X0_requireRange rfl rfl rfl (by decide +kernel) ⟨Nat.le_of_ble_eq_true rfl, Nat.le_of_ble_eq_true rfl⟩) ⟨zT.blind, zT.call⟩ rfl rfl hl.1 rfl (lv_room (Nat.le_of_ble_eq_true rfl)) dX0_setScale_4 ⟨Nat.zero_le _, Nat.zero_le _⟩).run) (fun _ => ?_)
  refine lv_iload_n hx hb dX0_setScale_7 rfl (lv_at hl 2 rfl) ?_
  refine lv_iconst (v := 0) hx hb dX0_setScale_8 (by decide) ?_
  refine lv_bipush (v := 7) hx hb dX0_setScale_9 (by decide) ?_
  refine vx_callv (vx_runS (As := [.int md, .int 0, .int 7]) (rest := []) ⟨hx, hb, hml, hown, hts⟩ (x_X0_requireRange l hst N0 s.heap md 0 7 h2) (va_cwS 3 hts gX0_setScale_X0_requireRange rfl rfl rfl (by decide +kernel) ⟨Nat.le_of_ble_eq_true rfl, Nat.le_of_ble_eq_true rfl⟩) ⟨zPx.blind, zPx.call hN hE hS⟩ rfl rfl hl.1 rfl (lv_room (Nat.le_of_ble_eq_true rfl)) dX0_setScale_11 ⟨Nat.le_refl _, Nat.le_refl _⟩) hS (fun _ _ h9 => h9) (fun _ h9 => h9) (fun _ _ h9 => h9) (fun E ce q9 u t H locs ht hvm hp hB hz1 hk1 hS hce hcv hcl => ?_) (fun u t H locs ht hvm hp hB hz1 hk1 hS => hp.elim)
  obtain ⟨rfl, hB2, hB3⟩ := hB
  exact vx_out (fun x9 h9 => (hnt x9 h9).elim) hlocks hce hcv hcl (fun t' h1 h2 => ⟨(), trivial, ⟨rfl, by rw [h1, ← ht]; exact hB2, fun q hq => by rw [h1, ← ht]; exact hB3 q hq⟩, hS.F h1⟩) hS.2.2 (Nat.le_refl _) (Nat.le_refl _)

set_option maxHeartbeats 4000000 in
set_option maxRecDepth 100000 in
theorem x_X0_setNudging_1 (l : Launch) (hst : l.stackTraces = false) (N0 : Nat) (Hx : Heap) (h : Nat) (sp : Int32) (le : Int32) (gl : Int32) (h1 : ¬ (0 ≤ sp ∧ sp ≤ 100)) : vx_Met l yX0_setNudging wsX0_setNudging ({ frames := 8, cells := 1, slots := 6, locals := 124 }) (va_Pc [.ref h, .int sp, .int le, .int gl] (fun U => U.heap = Hx ∧ zPe N0 U)) (va_Qv (fun (_ : Unit) => False) (fun _ _ => True) (zA N0)) (vx_X (fun (_ : Unit) => True) (fun E _ t => E = xI ∧ Hx.size ≤ t.heap.size ∧ ∀ q : Nat, q < Hx.size → t.heap[q]? = Hx[q]?) (zA N0)) 1 6 (zA N0) := by
  refine vx_ofW (cc := cX0_setNudging) (maxL := 4) (ret := none) (by decide) rfl ?_
  intro pr e s m ag below meth cd s₁ B hml hnt hv
  obtain ⟨rfl, rfl, hN, hE⟩ := hv
  have hx := B.exec
  have hb := B.bytes
  have hts := atoms_spec (ws := wsX0_setNudging) B.pre
  have hown : s.vm.findClass RX0 = some m.cls := findClass_of_methodNamed B.named
  have hlocks := B.notSynchronized
  have hS : va_S (zA N0) s.heap s.heap [] := va_S.rf
  have hl := lv_entry ([.ref h, .int sp, .int le, .int gl]) (n := 4) (Nat.le_of_ble_eq_true rfl)
  rw [lg_entry_eq]
  generalize (lg_sl ([.ref h, .int sp, .int le, .int gl]) ++ List.replicate (4 - (lg_sl ([.ref h, .int sp, .int le, .int gl])).length) Slot.unset).toArray = ls at hl ⊢
  have hl : lv_has ls 4 [(0, .ref h), (1, .int sp), (2, .int le), (3, .int gl)] := hl
  refine lv_iload_n hx hb dX0_setNudging_0 rfl (lv_at hl 1 rfl) ?_
  refine lv_iconst (v := 0) hx hb dX0_setNudging_1 (by decide) ?_
  refine lv_bipush (v := 100) hx hb dX0_setNudging_2 (by decide) ?_
  refine vx_callv (vx_runS (As := [.int sp, .int 0, .int 100]) (rest := []) ⟨hx, hb, hml, hown, hts⟩ (x_X0_requireRange l hst N0 s.heap sp 0 100 h1) (va_cwS 3 hts gX0_setNudging_X0_requireRange rfl rfl rfl (by decide +kernel) ⟨Nat.le_of_ble_eq_true rfl, Nat.le_of_ble_eq_true rfl⟩) ⟨zPx.blind, zPx.call hN hE hS⟩ rfl rfl hl.1 rfl (lv_room (Nat.le_of_ble_eq_true rfl)) dX0_setNudging_4 ⟨Nat.le_refl _, Nat.le_refl _⟩) hS (fun _ _ h9 => h9) (fun _ h9 => h9) (fun _ _ h9 => h9) (fun E ce q9 u t H locs ht hvm hp hB hz1 hk1 hS hce hcv hcl => ?_) (fun u t H locs ht hvm hp hB hz1 hk1 hS => hp.elim)
  obtain ⟨rfl, hB2, hB3⟩ := hB
  exact vx_out (fun x9 h9 => (hnt x9 h9).elim) hlocks hce hcv hcl (fun t' h1 h2 => ⟨(), trivial, ⟨rfl, by rw [h1, ← ht]; exact hB2, fun q hq => by rw [h1, ← ht]; exact hB3 q hq⟩, hS.F h1⟩) hS.2.2 (Nat.le_refl _) (Nat.le_refl _)

set_option maxHeartbeats 4000000 in
set_option maxRecDepth 100000 in
theorem x_X0_setNudging_2 (l : Launch) (hst : l.stackTraces = false) (N0 : Nat) (Hx : Heap) (h : Nat) (sp : Int32) (le : Int32) (gl : Int32) (h1 : 0 ≤ sp ∧ sp ≤ 100) (h2 : ¬ (0 ≤ le ∧ le ≤ 600)) : vx_Met l yX0_setNudging wsX0_setNudging ({ frames := 8, cells := 1, slots := 6, locals := 124 }) (va_Pc [.ref h, .int sp, .int le, .int gl] (fun U => U.heap = Hx ∧ zPe N0 U)) (va_Qv (fun (_ : Unit) => False) (fun _ _ => True) (zA N0)) (vx_X (fun (_ : Unit) => True) (fun E _ t => E = xI ∧ Hx.size ≤ t.heap.size ∧ ∀ q : Nat, q < Hx.size → t.heap[q]? = Hx[q]?) (zA N0)) 1 6 (zA N0) := by
  refine vx_ofW (cc := cX0_setNudging) (maxL := 4) (ret := none) (by decide) rfl ?_
  intro pr e s m ag below meth cd s₁ B hml hnt hv
  obtain ⟨rfl, rfl, hN, hE⟩ := hv
  have hx := B.exec
  have hb := B.bytes
  have hts := atoms_spec (ws := wsX0_setNudging) B.pre
  have hown : s.vm.findClass RX0 = some m.cls := findClass_of_methodNamed B.named
  have hlocks := B.notSynchronized
  have hS : va_S (zA N0) s.heap s.heap [] := va_S.rf
  have hl := lv_entry ([.ref h, .int sp, .int le, .int gl]) (n := 4) (Nat.le_of_ble_eq_true rfl)
  rw [lg_entry_eq]
  generalize (lg_sl ([.ref h, .int sp, .int le, .int gl]) ++ List.replicate (4 - (lg_sl ([.ref h, .int sp, .int le, .int gl])).length) Slot.unset).toArray = ls at hl ⊢
  have hl : lv_has ls 4 [(0, .ref h), (1, .int sp), (2, .int le), (3, .int gl)] := hl
  refine lv_iload_n hx hb dX0_setNudging_0 rfl (lv_at hl 1 rfl) ?_
  refine lv_iconst (v := 0) hx hb dX0_setNudging_1 (by decide) ?_
  refine lv_bipush (v := 100) hx hb dX0_setNudging_2 (by decide) ?_
  refine va_csv ((va_runS (As := [.int sp, .int 0, .int 100]) (rest := []) ⟨hx, hb, hml, hown, hts⟩ (c_X0_requireRange_v l sp 0 100 h1) (va_cwS 3 hts gX0_setNudging_X0_requireRange rfl rfl rfl (by decide +kernel) ⟨Nat.le_of_ble_eq_true rfl, Nat.le_of_ble_eq_true rfl⟩) ⟨zT.blind, zT.call⟩ rfl rfl hl.1 rfl (lv_room (Nat.le_of_ble_eq_true rfl)) dX0_setNudging_4 ⟨Nat.zero_le _, Nat.zero_le _⟩).run) (fun _ => ?_)
  refine lv_iload_n hx hb dX0_setNudging_7 rfl (lv_at hl 2 rfl) ?_
  refine lv_iconst (v := 0) hx hb dX0_setNudging_8 (by decide) ?_
  refine lv_sipush (v := 600) hx hb dX0_setNudging_9 (by decide) ?_
  refine vx_callv (vx_runS (As := [.int le, .int 0, .int 600]) (rest := []) ⟨hx, hb, hml, hown, hts⟩ (x_X0_requireRange l hst N0 s.heap le 0 600 h2) (va_cwS 3 hts gX0_setNudging_X0_requireRange rfl rfl rfl (by decide +kernel) ⟨Nat.le_of_ble_eq_true rfl, Nat.le_of_ble_eq_true rfl⟩) ⟨zPx.blind, zPx.call hN hE hS⟩ rfl rfl hl.1 rfl (lv_room (Nat.le_of_ble_eq_true rfl)) dX0_setNudging_12 ⟨Nat.le_refl _, Nat.le_refl _⟩) hS (fun _ _ h9 => h9) (fun _ h9 => h9) (fun _ _ h9 => h9) (fun E ce q9 u t H locs ht hvm hp hB hz1 hk1 hS hce hcv hcl => ?_) (fun u t H locs ht hvm hp hB hz1 hk1 hS => hp.elim)
  obtain ⟨rfl, hB2, hB3⟩ := hB
  exact vx_out (fun x9 h9 => (hnt x9 h9).elim) hlocks hce hcv hcl (fun t' h1 h2 => ⟨(), trivial, ⟨rfl, by rw [h1, ← ht]; exact hB2, fun q hq => by rw [h1, ← ht]; exact hB3 q hq⟩, hS.F h1⟩) hS.2.2 (Nat.le_refl _) (Nat.le_refl _)

set_option maxHeartbeats 4000000 in
set_option maxRecDepth 100000 in
theorem x_X0_setNudging_3 (l : Launch) (hst : l.stackTraces = false) (N0 : Nat) (Hx : Heap) (h : Nat) (sp : Int32) (le : Int32) (gl : Int32) (h1 : 0 ≤ sp ∧ sp ≤ 100) (h2 : 0 ≤ le ∧ le ≤ 600) (h3 : ¬ (0 ≤ gl ∧ gl ≤ 12000)) : vx_Met l yX0_setNudging wsX0_setNudging ({ frames := 8, cells := 1, slots := 6, locals := 124 }) (va_Pc [.ref h, .int sp, .int le, .int gl] (fun U => U.heap = Hx ∧ zPe N0 U)) (va_Qv (fun (_ : Unit) => False) (fun _ _ => True) (zA N0)) (vx_X (fun (_ : Unit) => True) (fun E _ t => E = xI ∧ Hx.size ≤ t.heap.size ∧ ∀ q : Nat, q < Hx.size → t.heap[q]? = Hx[q]?) (zA N0)) 1 6 (zA N0) := by
  refine vx_ofW (cc := cX0_setNudging) (maxL := 4) (ret := none) (by decide) rfl ?_
  intro pr e s m ag below meth cd s₁ B hml hnt hv
  obtain ⟨rfl, rfl, hN, hE⟩ := hv
  have hx := B.exec
  have hb := B.bytes
  have hts := atoms_spec (ws := wsX0_setNudging) B.pre
  have hown : s.vm.findClass RX0 = some m.cls := findClass_of_methodNamed B.named
  have hlocks := B.notSynchronized
  have hS : va_S (zA N0) s.heap s.heap [] := va_S.rf
  have hl := lv_entry ([.ref h, .int sp, .int le, .int gl]) (n := 4) (Nat.le_of_ble_eq_true rfl)
  rw [lg_entry_eq]
  generalize (lg_sl ([.ref h, .int sp, .int le, .int gl]) ++ List.replicate (4 - (lg_sl ([.ref h, .int sp, .int le, .int gl])).length) Slot.unset).toArray = ls at hl ⊢
  have hl : lv_has ls 4 [(0, .ref h), (1, .int sp), (2, .int le), (3, .int gl)] := hl
  refine lv_iload_n hx hb dX0_setNudging_0 rfl (lv_at hl 1 rfl) ?_
  refine lv_iconst (v := 0) hx hb dX0_setNudging_1 (by decide) ?_
  refine lv_bipush (v := 100) hx hb dX0_setNudging_2 (by decide) ?_
  refine va_csv ((va_runS (As := [.int sp, .int 0, .int 100]) (rest := []) ⟨hx, hb, hml, hown, hts⟩ (c_X0_requireRange_v l sp 0 100 h1) (va_cwS 3 hts gX0_setNudging_X0_requireRange rfl rfl rfl (by decide +kernel) ⟨Nat.le_of_ble_eq_true rfl, Nat.le_of_ble_eq_true rfl⟩) ⟨zT.blind, zT.call⟩ rfl rfl hl.1 rfl (lv_room (Nat.le_of_ble_eq_true rfl)) dX0_setNudging_4 ⟨Nat.zero_le _, Nat.zero_le _⟩).run) (fun _ => ?_)
  refine lv_iload_n hx hb dX0_setNudging_7 rfl (lv_at hl 2 rfl) ?_
  refine lv_iconst (v := 0) hx hb dX0_setNudging_8 (by decide) ?_
  refine lv_sipush (v := 600) hx hb dX0_setNudging_9 (by decide) ?_
  refine va_csv ((va_runS (As := [.int le, .int 0, .int 600]) (rest := []) ⟨hx, hb, hml, hown, hts⟩ (c_X0_requireRange_v l le 0 600 h2) (va_cwS 3 hts gX0_setNudging_X0_requireRange rfl rfl rfl (by decide +kernel) ⟨Nat.le_of_ble_eq_true rfl, Nat.le_of_ble_eq_true rfl⟩) ⟨zT.blind, zT.call⟩ rfl rfl hl.1 rfl (lv_room (Nat.le_of_ble_eq_true rfl)) dX0_setNudging_12 ⟨Nat.zero_le _, Nat.zero_le _⟩).run) (fun _ => ?_)
  refine lv_iload_n hx hb dX0_setNudging_15 rfl (lv_at hl 3 rfl) ?_
  refine lv_iconst (v := 0) hx hb dX0_setNudging_16 (by decide) ?_
  refine lv_sipush (v := 12000) hx hb dX0_setNudging_17 (by decide) ?_
  refine vx_callv (vx_runS (As := [.int gl, .int 0, .int 12000]) (rest := []) ⟨hx, hb, hml, hown, hts⟩ (x_X0_requireRange l hst N0 s.heap gl 0 12000 h3) (va_cwS 3 hts gX0_setNudging_X0_requireRange rfl rfl rfl (by decide +kernel) ⟨Nat.le_of_ble_eq_true rfl, Nat.le_of_ble_eq_true rfl⟩) ⟨zPx.blind, zPx.call hN hE hS⟩ rfl rfl hl.1 rfl (lv_room (Nat.le_of_ble_eq_true rfl)) dX0_setNudging_20 ⟨Nat.le_refl _, Nat.le_refl _⟩) hS (fun _ _ h9 => h9) (fun _ h9 => h9) (fun _ _ h9 => h9) (fun E ce q9 u t H locs ht hvm hp hB hz1 hk1 hS hce hcv hcl => ?_) (fun u t H locs ht hvm hp hB hz1 hk1 hS => hp.elim)
  obtain ⟨rfl, hB2, hB3⟩ := hB
  exact vx_out (fun x9 h9 => (hnt x9 h9).elim) hlocks hce hcv hcl (fun t' h1 h2 => ⟨(), trivial, ⟨rfl, by rw [h1, ← ht]; exact hB2, fun q hq => by rw [h1, ← ht]; exact hB3 q hq⟩, hS.F h1⟩) hS.2.2 (Nat.le_refl _) (Nat.le_refl _)

set_option maxHeartbeats 4000000 in
set_option maxRecDepth 100000 in
theorem x_X0_sing_1 (l : Launch) (hst : l.stackTraces = false) (N0 : Nat) (Hx : Heap) (h : Nat) (w : Int32) (p : Int32) (hw : ¬ (zw w)) : vx_Met l yX0_sing wsX0_sing ({ frames := 8, cells := 1, slots := 6, locals := 124 }) (va_Pc [.ref h, .int w, .int p] (fun U => U.heap = Hx ∧ zPe N0 U)) (va_Qi (fun (_ : Int32) (_ : Unit) => False) (fun _ _ => True) (zA N0)) (vx_X (fun (_ : Unit) => True) (fun E _ t => E = xO ∧ Hx.size ≤ t.heap.size ∧ ∀ q : Nat, q < Hx.size → t.heap[q]? = Hx[q]?) (zA N0)) 1 6 (zA N0) := by
  refine vx_ofW (cc := cX0_sing) (maxL := 3) (ret := (some .int)) (by decide) rfl ?_
  intro pr e s m ag below meth cd s₁ B hml hnt hv
  obtain ⟨rfl, rfl, hN, hE⟩ := hv
  have hx := B.exec
  have hb := B.bytes
  have hts := atoms_spec (ws := wsX0_sing) B.pre
  have hown : s.vm.findClass RX0 = some m.cls := findClass_of_methodNamed B.named
  have hlocks := B.notSynchronized
  have hS : va_S (zA N0) s.heap s.heap [] := va_S.rf
  have hl := lv_entry ([.ref h, .int w, .int p]) (n := 3) (Nat.le_of_ble_eq_true rfl)
  rw [lg_entry_eq]
  generalize (lg_sl ([.ref h, .int w, .int p]) ++ List.replicate (3 - (lg_sl ([.ref h, .int w, .int p])).length) Slot.unset).toArray = ls at hl ⊢
  have hl : lv_has ls 3 [(0, .ref h), (1, .int w), (2, .int p)] := hl
  refine lv_iload_n hx hb dX0_sing_0 rfl (lv_at hl 1 rfl) ?_
  refine vx_callv (vx_runS (As := [.int w]) (rest := []) ⟨hx, hb, hml, hown, hts⟩ (x_X0_requireWren l hst N0 s.heap w hw) (va_cwS 1 hts gX0_sing_X0_requireWren rfl rfl rfl (by decide +kernel) ⟨Nat.le_of_ble_eq_true rfl, Nat.le_of_ble_eq_true rfl⟩) ⟨zPx.blind, zPx.call hN hE hS⟩ rfl rfl hl.1 rfl (lv_room (Nat.le_of_ble_eq_true rfl)) dX0_sing_1 ⟨Nat.le_refl _, Nat.le_refl _⟩) hS (fun _ _ h9 => h9) (fun _ h9 => h9) (fun _ _ h9 => h9) (fun E ce q9 u t H locs ht hvm hp hB hz1 hk1 hS hce hcv hcl => ?_) (fun u t H locs ht hvm hp hB hz1 hk1 hS => hp.elim)
  obtain ⟨rfl, hB2, hB3⟩ := hB
  exact vx_out (fun x9 h9 => (hnt x9 h9).elim) hlocks hce hcv hcl (fun t' h1 h2 => ⟨(), trivial, ⟨rfl, by rw [h1, ← ht]; exact hB2, fun q hq => by rw [h1, ← ht]; exact hB3 q hq⟩, hS.F h1⟩) hS.2.2 (Nat.le_refl _) (Nat.le_refl _)

set_option maxHeartbeats 4000000 in
set_option maxRecDepth 100000 in
theorem x_X0_sing_2 (l : Launch) (hst : l.stackTraces = false) (N0 : Nat) (Hx : Heap) (h : Nat) (w : Int32) (p : Int32) (hw : zw w) (hp : ¬ (zp p)) : vx_Met l yX0_sing wsX0_sing ({ frames := 8, cells := 1, slots := 6, locals := 124 }) (va_Pc [.ref h, .int w, .int p] (fun U => U.heap = Hx ∧ zPe N0 U)) (va_Qi (fun (_ : Int32) (_ : Unit) => False) (fun _ _ => True) (zA N0)) (vx_X (fun (_ : Unit) => True) (fun E _ t => E = xI ∧ Hx.size ≤ t.heap.size ∧ ∀ q : Nat, q < Hx.size → t.heap[q]? = Hx[q]?) (zA N0)) 1 6 (zA N0) := by
  refine vx_ofW (cc := cX0_sing) (maxL := 3) (ret := (some .int)) (by decide) rfl ?_
  intro pr e s m ag below meth cd s₁ B hml hnt hv
  obtain ⟨rfl, rfl, hN, hE⟩ := hv
  have hx := B.exec
  have hb := B.bytes
  have hts := atoms_spec (ws := wsX0_sing) B.pre
  have hown : s.vm.findClass RX0 = some m.cls := findClass_of_methodNamed B.named
  have hlocks := B.notSynchronized
  have hS : va_S (zA N0) s.heap s.heap [] := va_S.rf
  have hl := lv_entry ([.ref h, .int w, .int p]) (n := 3) (Nat.le_of_ble_eq_true rfl)
  rw [lg_entry_eq]
  generalize (lg_sl ([.ref h, .int w, .int p]) ++ List.replicate (3 - (lg_sl ([.ref h, .int w, .int p])).length) Slot.unset).toArray = ls at hl ⊢
  have hl : lv_has ls 3 [(0, .ref h), (1, .int w), (2, .int p)] := hl
  refine lv_iload_n hx hb dX0_sing_0 rfl (lv_at hl 1 rfl) ?_
  refine va_csv ((va_runS (As := [.int w]) (rest := []) ⟨hx, hb, hml, hown, hts⟩ (c_X0_requireWren_v l w hw) (va_cwS 1 hts gX0_sing_X0_requireWren rfl rfl rfl (by decide +kernel) ⟨Nat.le_of_ble_eq_true rfl, Nat.le_of_ble_eq_true rfl⟩) ⟨zT.blind, zT.call⟩ rfl rfl hl.1 rfl (lv_room (Nat.le_of_ble_eq_true rfl)) dX0_sing_1 ⟨Nat.zero_le _, Nat.zero_le _⟩).run) (fun _ => ?_)
  refine lv_iload_n hx hb dX0_sing_4 rfl (lv_at hl 2 rfl) ?_
  refine vx_callv (vx_runS (As := [.int p]) (rest := []) ⟨hx, hb, hml, hown, hts⟩ (x_X0_requirePitch l hst N0 s.heap p hp) (va_cwS 1 hts gX0_sing_X0_requirePitch rfl rfl rfl (by decide +kernel) ⟨Nat.le_of_ble_eq_true rfl, Nat.le_of_ble_eq_true rfl⟩) ⟨zPx.blind, zPx.call hN hE hS⟩ rfl rfl hl.1 rfl (lv_room (Nat.le_of_ble_eq_true rfl)) dX0_sing_5 ⟨Nat.le_refl _, Nat.le_refl _⟩) hS (fun _ _ h9 => h9) (fun _ h9 => h9) (fun _ _ h9 => h9) (fun E ce q9 u t H locs ht hvm hp hB hz1 hk1 hS hce hcv hcl => ?_) (fun u t H locs ht hvm hp hB hz1 hk1 hS => hp.elim)
  obtain ⟨rfl, hB2, hB3⟩ := hB
  exact vx_out (fun x9 h9 => (hnt x9 h9).elim) hlocks hce hcv hcl (fun t' h1 h2 => ⟨(), trivial, ⟨rfl, by rw [h1, ← ht]; exact hB2, fun q hq => by rw [h1, ← ht]; exact hB3 q hq⟩, hS.F h1⟩) hS.2.2 (Nat.le_refl _) (Nat.le_refl _)

set_option maxHeartbeats 4000000 in
set_option maxRecDepth 100000 in
theorem x_X0_slide_1 (l : Launch) (hst : l.stackTraces = false) (N0 : Nat) (Hx : Heap) (h : Nat) (w : Int32) (a : Int32) (b : Int32) (f : Int32) (hw : ¬ (zw w)) : vx_Met l yX0_slide wsX0_slide ({ frames := 8, cells := 1, slots := 6, locals := 124 }) (va_Pc [.ref h, .int w, .int a, .int b, .int f] (fun U => U.heap = Hx ∧ zPe N0 U)) (va_Qi (fun (_ : Int32) (_ : Unit) => False) (fun _ _ => True) (zA N0)) (vx_X (fun (_ : Unit) => True) (fun E _ t => E = xO ∧ Hx.size ≤ t.heap.size ∧ ∀ q : Nat, q < Hx.size → t.heap[q]? = Hx[q]?) (zA N0)) 1 6 (zA N0) := by
  refine vx_ofW (cc := cX0_slide) (maxL := 7) (ret := (some .int)) (by decide) rfl ?_
  intro pr e s m ag below meth cd s₁ B hml hnt hv
  obtain ⟨rfl, rfl, hN, hE⟩ := hv
  have hx := B.exec
  have hb := B.bytes
  have hts := atoms_spec (ws := wsX0_slide) B.pre
  have hown : s.vm.findClass RX0 = some m.cls := findClass_of_methodNamed B.named
  have hlocks := B.notSynchronized
  have hS : va_S (zA N0) s.heap s.heap [] := va_S.rf
  have hl := lv_entry ([.ref h, .int w, .int a, .int b, .int f]) (n := 7) (Nat.le_of_ble_eq_true rfl)
  rw [lg_entry_eq]
  generalize (lg_sl ([.ref h, .int w, .int a, .int b, .int f]) ++ List.replicate (7 - (lg_sl ([.ref h, .int w, .int a, .int b, .int f])).length) Slot.unset).toArray = ls at hl ⊢
  have hl : lv_has ls 7 [(0, .ref h), (1, .int w), (2, .int a), (3, .int b), (4, .int f)] := hl
  refine lv_iload_n hx hb dX0_slide_0 rfl (lv_at hl 1 rfl) ?_
  refine vx_callv (vx_runS (As := [.int w]) (rest := []) ⟨hx, hb, hml, hown, hts⟩ (x_X0_requireWren l hst N0 s.heap w hw) (va_cwS 1 hts gX0_slide_X0_requireWren rfl rfl rfl (by decide +kernel) ⟨Nat.le_of_ble_eq_true rfl, Nat.le_of_ble_eq_true rfl⟩) ⟨zPx.blind, zPx.call hN hE hS⟩ rfl rfl hl.1 rfl (lv_room (Nat.le_of_ble_eq_true rfl)) dX0_slide_1 ⟨Nat.le_refl _, Nat.le_refl _⟩) hS (fun _ _ h9 => h9) (fun _ h9 => h9) (fun _ _ h9 => h9) (fun E ce q9 u t H locs ht hvm hp hB hz1 hk1 hS hce hcv hcl => ?_) (fun u t H locs ht hvm hp hB hz1 hk1 hS => hp.elim)
  obtain ⟨rfl, hB2, hB3⟩ := hB
  exact vx_out (fun x9 h9 => (hnt x9 h9).elim) hlocks hce hcv hcl (fun t' h1 h2 => ⟨(), trivial, ⟨rfl, by rw [h1, ← ht]; exact hB2, fun q hq => by rw [h1, ← ht]; exact hB3 q hq⟩, hS.F h1⟩) hS.2.2 (Nat.le_refl _) (Nat.le_refl _)

set_option maxHeartbeats 4000000 in
set_option maxRecDepth 100000 in
theorem x_X0_slide_2 (l : Launch) (hst : l.stackTraces = false) (N0 : Nat) (Hx : Heap) (h : Nat) (w : Int32) (a : Int32) (b : Int32) (f : Int32) (hw : zw w) (h2 : ¬ (zp a)) : vx_Met l yX0_slide wsX0_slide ({ frames := 8, cells := 1, slots := 6, locals := 124 }) (va_Pc [.ref h, .int w, .int a, .int b, .int f] (fun U => U.heap = Hx ∧ zPe N0 U)) (va_Qi (fun (_ : Int32) (_ : Unit) => False) (fun _ _ => True) (zA N0)) (vx_X (fun (_ : Unit) => True) (fun E _ t => E = xI ∧ Hx.size ≤ t.heap.size ∧ ∀ q : Nat, q < Hx.size → t.heap[q]? = Hx[q]?) (zA N0)) 1 6 (zA N0) := by
  refine vx_ofW (cc := cX0_slide) (maxL := 7) (ret := (some .int)) (by decide) rfl ?_
  intro pr e s m ag below meth cd s₁ B hml hnt hv
  obtain ⟨rfl, rfl, hN, hE⟩ := hv
  have hx := B.exec
  have hb := B.bytes
  have hts := atoms_spec (ws := wsX0_slide) B.pre
  have hown : s.vm.findClass RX0 = some m.cls := findClass_of_methodNamed B.named
  have hlocks := B.notSynchronized
  have hS : va_S (zA N0) s.heap s.heap [] := va_S.rf
  have hl := lv_entry ([.ref h, .int w, .int a, .int b, .int f]) (n := 7) (Nat.le_of_ble_eq_true rfl)
  rw [lg_entry_eq]
  generalize (lg_sl ([.ref h, .int w, .int a, .int b, .int f]) ++ List.replicate (7 - (lg_sl ([.ref h, .int w, .int a, .int b, .int f])).length) Slot.unset).toArray = ls at hl ⊢
  have hl : lv_has ls 7 [(0, .ref h), (1, .int w), (2, .int a), (3, .int b), (4, .int f)] := hl
  refine lv_iload_n hx hb dX0_slide_0 rfl (lv_at hl 1 rfl) ?_
  refine va_csv ((va_runS (As := [.int w]) (rest := []) ⟨hx, hb, hml, hown, hts⟩ (c_X0_requireWren_v l w hw) (va_cwS 1 hts gX0_slide_X0_requireWren rfl rfl rfl (by decide +kernel) ⟨Nat.le_of_ble_eq_true rfl, Nat.le_of_ble_eq_true rfl⟩) ⟨zT.blind, zT.call⟩ rfl rfl hl.1 rfl (lv_room (Nat.le_of_ble_eq_true rfl)) dX0_slide_1 ⟨Nat.zero_le _, Nat.zero_le _⟩).run) (fun _ => ?_)
  refine lv_iload_n hx hb dX0_slide_4 rfl (lv_at hl 2 rfl) ?_
  refine vx_callv (vx_runS (As := [.int a]) (rest := []) ⟨hx, hb, hml, hown, hts⟩ (x_X0_requirePitch l hst N0 s.heap a h2) (va_cwS 1 hts gX0_slide_X0_requirePitch rfl rfl rfl (by decide +kernel) ⟨Nat.le_of_ble_eq_true rfl, Nat.le_of_ble_eq_true rfl⟩) ⟨zPx.blind, zPx.call hN hE hS⟩ rfl rfl hl.1 rfl (lv_room (Nat.le_of_ble_eq_true rfl)) dX0_slide_5 ⟨Nat.le_refl _, Nat.le_refl _⟩) hS (fun _ _ h9 => h9) (fun _ h9 => h9) (fun _ _ h9 => h9) (fun E ce q9 u t H locs ht hvm hp hB hz1 hk1 hS hce hcv hcl => ?_) (fun u t H locs ht hvm hp hB hz1 hk1 hS => hp.elim)
  obtain ⟨rfl, hB2, hB3⟩ := hB
  exact vx_out (fun x9 h9 => (hnt x9 h9).elim) hlocks hce hcv hcl (fun t' h1 h2 => ⟨(), trivial, ⟨rfl, by rw [h1, ← ht]; exact hB2, fun q hq => by rw [h1, ← ht]; exact hB3 q hq⟩, hS.F h1⟩) hS.2.2 (Nat.le_refl _) (Nat.le_refl _)

set_option maxHeartbeats 4000000 in
set_option maxRecDepth 100000 in
theorem x_X0_slide_3 (l : Launch) (hst : l.stackTraces = false) (N0 : Nat) (Hx : Heap) (h : Nat) (w : Int32) (a : Int32) (b : Int32) (f : Int32) (hw : zw w) (h2 : zp a) (h3 : ¬ (zp b)) : vx_Met l yX0_slide wsX0_slide ({ frames := 8, cells := 1, slots := 6, locals := 124 }) (va_Pc [.ref h, .int w, .int a, .int b, .int f] (fun U => U.heap = Hx ∧ zPe N0 U)) (va_Qi (fun (_ : Int32) (_ : Unit) => False) (fun _ _ => True) (zA N0)) (vx_X (fun (_ : Unit) => True) (fun E _ t => E = xI ∧ Hx.size ≤ t.heap.size ∧ ∀ q : Nat, q < Hx.size → t.heap[q]? = Hx[q]?) (zA N0)) 1 6 (zA N0) := by
  refine vx_ofW (cc := cX0_slide) (maxL := 7) (ret := (some .int)) (by decide) rfl ?_
  intro pr e s m ag below meth cd s₁ B hml hnt hv
  obtain ⟨rfl, rfl, hN, hE⟩ := hv
  have hx := B.exec
  have hb := B.bytes
  have hts := atoms_spec (ws := wsX0_slide) B.pre
  have hown : s.vm.findClass RX0 = some m.cls := findClass_of_methodNamed B.named
  have hlocks := B.notSynchronized
  have hS : va_S (zA N0) s.heap s.heap [] := va_S.rf
  have hl := lv_entry ([.ref h, .int w, .int a, .int b, .int f]) (n := 7) (Nat.le_of_ble_eq_true rfl)
  rw [lg_entry_eq]
  generalize (lg_sl ([.ref h, .int w, .int a, .int b, .int f]) ++ List.replicate (7 - (lg_sl ([.ref h, .int w, .int a, .int b, .int f])).length) Slot.unset).toArray = ls at hl ⊢
  have hl : lv_has ls 7 [(0, .ref h), (1, .int w), (2, .int a), (3, .int b), (4, .int f)] := hl
  refine lv_iload_n hx hb dX0_slide_0 rfl (lv_at hl 1 rfl) ?_
  refine va_csv ((va_runS (As := [.int w]) (rest := []) ⟨hx, hb, hml, hown, hts⟩ (c_X0_requireWren_v l w hw) (va_cwS 1 hts gX0_slide_X0_requireWren rfl rfl rfl (by decide +kernel) ⟨Nat.le_of_ble_eq_true rfl, Nat.le_of_ble_eq_true rfl⟩) ⟨zT.blind, zT.call⟩ rfl rfl hl.1 rfl (lv_room (Nat.le_of_ble_eq_true rfl)) dX0_slide_1 ⟨Nat.zero_le _, Nat.zero_le _⟩).run) (fun _ => ?_)
  refine lv_iload_n hx hb dX0_slide_4 rfl (lv_at hl 2 rfl) ?_
  refine va_csv ((va_runS (As := [.int a]) (rest := []) ⟨hx, hb, hml, hown, hts⟩ (c_X0_requirePitch_v l a h2) (va_cwS 1 hts gX0_slide_X0_requirePitch rfl rfl rfl (by decide +kernel) ⟨Nat.le_of_ble_eq_true rfl, Nat.le_of_ble_eq_true rfl⟩) ⟨zT.blind, zT.call⟩ rfl rfl hl.1 rfl (lv_room (Nat.le_of_ble_eq_true rfl)) dX0_slide_5 ⟨Nat.zero_le _, Nat.zero_le _⟩).run) (fun _ => ?_)
  refine lv_iload_n hx hb dX0_slide_8 rfl (lv_at hl 3 rfl) ?_
  refine vx_callv (vx_runS (As := [.int b]) (rest := []) ⟨hx, hb, hml, hown, hts⟩ (x_X0_requirePitch l hst N0 s.heap b h3) (va_cwS 1 hts gX0_slide_X0_requirePitch rfl rfl rfl (by decide +kernel) ⟨Nat.le_of_ble_eq_true rfl, Nat.le_of_ble_eq_true rfl⟩) ⟨zPx.blind, zPx.call hN hE hS⟩ rfl rfl hl.1 rfl (lv_room (Nat.le_of_ble_eq_true rfl)) dX0_slide_9 ⟨Nat.le_refl _, Nat.le_refl _⟩) hS (fun _ _ h9 => h9) (fun _ h9 => h9) (fun _ _ h9 => h9) (fun E ce q9 u t H locs ht hvm hp hB hz1 hk1 hS hce hcv hcl => ?_) (fun u t H locs ht hvm hp hB hz1 hk1 hS => hp.elim)
  obtain ⟨rfl, hB2, hB3⟩ := hB
  exact vx_out (fun x9 h9 => (hnt x9 h9).elim) hlocks hce hcv hcl (fun t' h1 h2 => ⟨(), trivial, ⟨rfl, by rw [h1, ← ht]; exact hB2, fun q hq => by rw [h1, ← ht]; exact hB3 q hq⟩, hS.F h1⟩) hS.2.2 (Nat.le_refl _) (Nat.le_refl _)

set_option maxHeartbeats 4000000 in
set_option maxRecDepth 100000 in
theorem x_X0_slide_4 (l : Launch) (hst : l.stackTraces = false) (N0 : Nat) (Hx : Heap) (h : Nat) (w : Int32) (a : Int32) (b : Int32) (f : Int32) (hw : zw w) (h2 : zp a) (h3 : zp b) (h4 : ¬ (2 ≤ f ∧ f ≤ 50)) : vx_Met l yX0_slide wsX0_slide ({ frames := 8, cells := 1, slots := 6, locals := 124 }) (va_Pc [.ref h, .int w, .int a, .int b, .int f] (fun U => U.heap = Hx ∧ zPe N0 U)) (va_Qi (fun (_ : Int32) (_ : Unit) => False) (fun _ _ => True) (zA N0)) (vx_X (fun (_ : Unit) => True) (fun E _ t => E = xI ∧ Hx.size ≤ t.heap.size ∧ ∀ q : Nat, q < Hx.size → t.heap[q]? = Hx[q]?) (zA N0)) 1 6 (zA N0) := by
  refine vx_ofW (cc := cX0_slide) (maxL := 7) (ret := (some .int)) (by decide) rfl ?_
  intro pr e s m ag below meth cd s₁ B hml hnt hv
  obtain ⟨rfl, rfl, hN, hE⟩ := hv
  have hx := B.exec
  have hb := B.bytes
  have hts := atoms_spec (ws := wsX0_slide) B.pre
  have hown : s.vm.findClass RX0 = some m.cls := findClass_of_methodNamed B.named
  have hlocks := B.notSynchronized
  have hS : va_S (zA N0) s.heap s.heap [] := va_S.rf
  have hl := lv_entry ([.ref h, .int w, .int a, .int b, .int f]) (n := 7) (Nat.le_of_ble_eq_true rfl)
  rw [lg_entry_eq]
  generalize (lg_sl ([.ref h, .int w, .int a, .int b, .int f]) ++ List.replicate (7 - (lg_sl ([.ref h, .int w, .int a, .int b, .int f])).length) Slot.unset).toArray = ls at hl ⊢
  have hl : lv_has ls 7 [(0, .ref h), (1, .int w), (2, .int a), (3, .int b), (4, .int f)] := hl
  refine lv_iload_n hx hb dX0_slide_0 rfl (lv_at hl 1 rfl) ?_
  refine va_csv ((va_runS (As := [.int w]) (rest := []) ⟨hx, hb, hml, hown, hts⟩ (c_X0_requireWren_v l w hw) (va_cwS 1 hts gX0_slide_X0_requireWren rfl rfl rfl (by decide +kernel) ⟨Nat.le_of_ble_eq_true rfl, Nat.le_of_ble_eq_true rfl⟩) ⟨zT.blind, zT.call⟩ rfl rfl hl.1 rfl (lv_room (Nat.le_of_ble_eq_true rfl)) dX0_slide_1 ⟨Nat.zero_le _, Nat.zero_le _⟩).run) (fun _ => ?_)
  refine lv_iload_n hx hb dX0_slide_4 rfl (lv_at hl 2 rfl) ?_
  refine va_csv ((va_runS (As := [.int a]) (rest := []) ⟨hx, hb, hml, hown, hts⟩ (c_X0_requirePitch_v l a h2) (va_cwS 1 hts gX0_slide_X0_requirePitch rfl rfl rfl (by decide +kernel) ⟨Nat.le_of_ble_eq_true rfl, Nat.le_of_ble_eq_true rfl⟩) ⟨zT.blind, zT.call⟩ rfl rfl hl.1 rfl (lv_room (Nat.le_of_ble_eq_true rfl)) dX0_slide_5 ⟨Nat.zero_le _, Nat.zero_le _⟩).run) (fun _ => ?_)
  refine lv_iload_n hx hb dX0_slide_8 rfl (lv_at hl 3 rfl) ?_
  refine va_csv ((va_runS (As := [.int b]) (rest := []) ⟨hx, hb, hml, hown, hts⟩ (c_X0_requirePitch_v l b h3) (va_cwS 1 hts gX0_slide_X0_requirePitch rfl rfl rfl (by decide +kernel) ⟨Nat.le_of_ble_eq_true rfl, Nat.le_of_ble_eq_true rfl⟩) ⟨zT.blind, zT.call⟩ rfl rfl hl.1 rfl (lv_room (Nat.le_of_ble_eq_true rfl)) dX0_slide_9 ⟨Nat.zero_le _, Nat.zero_le _⟩).run) (fun _ => ?_)
  refine lv_iload hx hb dX0_slide_12 (lv_at hl 4 rfl) ?_
  refine lv_iconst (v := 2) hx hb dX0_slide_14 (by decide) ?_
  refine lv_bipush (v := 50) hx hb dX0_slide_15 (by decide) ?_
  refine vx_callv (vx_runS (As := [.int f, .int 2, .int 50]) (rest := []) ⟨hx, hb, hml, hown, hts⟩ (x_X0_requireRange l hst N0 s.heap f 2 50 h4) (va_cwS 3 hts gX0_slide_X0_requireRange rfl rfl rfl (by decide +kernel) ⟨Nat.le_of_ble_eq_true rfl, Nat.le_of_ble_eq_true rfl⟩) ⟨zPx.blind, zPx.call hN hE hS⟩ rfl rfl hl.1 rfl (lv_room (Nat.le_of_ble_eq_true rfl)) dX0_slide_17 ⟨Nat.le_refl _, Nat.le_refl _⟩) hS (fun _ _ h9 => h9) (fun _ h9 => h9) (fun _ _ h9 => h9) (fun E ce q9 u t H locs ht hvm hp hB hz1 hk1 hS hce hcv hcl => ?_) (fun u t H locs ht hvm hp hB hz1 hk1 hS => hp.elim)
  obtain ⟨rfl, hB2, hB3⟩ := hB
  exact vx_out (fun x9 h9 => (hnt x9 h9).elim) hlocks hce hcv hcl (fun t' h1 h2 => ⟨(), trivial, ⟨rfl, by rw [h1, ← ht]; exact hB2, fun q hq => by rw [h1, ← ht]; exact hB3 q hq⟩, hS.F h1⟩) hS.2.2 (Nat.le_refl _) (Nat.le_refl _)

set_option maxHeartbeats 4000000 in
set_option maxRecDepth 100000 in
theorem x_X0_rest_1 (l : Launch) (hst : l.stackTraces = false) (N0 : Nat) (Hx : Heap) (h : Nat) (w : Int32) (hw : ¬ (zw w)) : vx_Met l yX0_rest wsX0_rest ({ frames := 8, cells := 1, slots := 6, locals := 124 }) (va_Pc [.ref h, .int w] (fun U => U.heap = Hx ∧ zPe N0 U)) (va_Qi (fun (_ : Int32) (_ : Unit) => False) (fun _ _ => True) (zA N0)) (vx_X (fun (_ : Unit) => True) (fun E _ t => E = xO ∧ Hx.size ≤ t.heap.size ∧ ∀ q : Nat, q < Hx.size → t.heap[q]? = Hx[q]?) (zA N0)) 1 6 (zA N0) := by
  refine vx_ofW (cc := cX0_rest) (maxL := 3) (ret := (some .int)) (by decide) rfl ?_
  intro pr e s m ag below meth cd s₁ B hml hnt hv
  obtain ⟨rfl, rfl, hN, hE⟩ := hv
  have hx := B.exec
  have hb := B.bytes
  have hts := atoms_spec (ws := wsX0_rest) B.pre
  have hown : s.vm.findClass RX0 = some m.cls := findClass_of_methodNamed B.named
  have hlocks := B.notSynchronized
  have hS : va_S (zA N0) s.heap s.heap [] := va_S.rf
  have hl := lv_entry ([.ref h, .int w]) (n := 3) (Nat.le_of_ble_eq_true rfl)
  rw [lg_entry_eq]
  generalize (lg_sl ([.ref h, .int w]) ++ List.replicate (3 - (lg_sl ([.ref h, .int w])).length) Slot.unset).toArray = ls at hl ⊢
  have hl : lv_has ls 3 [(0, .ref h), (1, .int w)] := hl
  refine lv_iload_n hx hb dX0_rest_0 rfl (lv_at hl 1 rfl) ?_
  refine vx_callv (vx_runS (As := [.int w]) (rest := []) ⟨hx, hb, hml, hown, hts⟩ (x_X0_requireWren l hst N0 s.heap w hw) (va_cwS 1 hts gX0_rest_X0_requireWren rfl rfl rfl (by decide +kernel) ⟨Nat.le_of_ble_eq_true rfl, Nat.le_of_ble_eq_true rfl⟩) ⟨zPx.blind, zPx.call hN hE hS⟩ rfl rfl hl.1 rfl (lv_room (Nat.le_of_ble_eq_true rfl)) dX0_rest_1 ⟨Nat.le_refl _, Nat.le_refl _⟩) hS (fun _ _ h9 => h9) (fun _ h9 => h9) (fun _ _ h9 => h9) (fun E ce q9 u t H locs ht hvm hp hB hz1 hk1 hS hce hcv hcl => ?_) (fun u t H locs ht hvm hp hB hz1 hk1 hS => hp.elim)
  obtain ⟨rfl, hB2, hB3⟩ := hB
  exact vx_out (fun x9 h9 => (hnt x9 h9).elim) hlocks hce hcv hcl (fun t' h1 h2 => ⟨(), trivial, ⟨rfl, by rw [h1, ← ht]; exact hB2, fun q hq => by rw [h1, ← ht]; exact hB3 q hq⟩, hS.F h1⟩) hS.2.2 (Nat.le_refl _) (Nat.le_refl _)

set_option maxHeartbeats 4000000 in
set_option maxRecDepth 100000 in
theorem x_X0_nearest_1 (l : Launch) (hst : l.stackTraces = false) (N0 : Nat) (Hx : Heap) (h : Nat) (p : Int32) (hp : ¬ (zp p)) : vx_Met l yX0_nearest wsX0_nearest ({ frames := 8, cells := 1, slots := 6, locals := 124 }) (va_Pc [.ref h, .int p] (fun U => U.heap = Hx ∧ zPe N0 U)) (va_Qi (fun (_ : Int32) (_ : Unit) => False) (fun _ _ => True) (zA N0)) (vx_X (fun (_ : Unit) => True) (fun E _ t => E = xI ∧ Hx.size ≤ t.heap.size ∧ ∀ q : Nat, q < Hx.size → t.heap[q]? = Hx[q]?) (zA N0)) 1 6 (zA N0) := by
  refine vx_ofW (cc := cX0_nearest) (maxL := 2) (ret := (some .int)) (by decide) rfl ?_
  intro pr e s m ag below meth cd s₁ B hml hnt hv
  obtain ⟨rfl, rfl, hN, hE⟩ := hv
  have hx := B.exec
  have hb := B.bytes
  have hts := atoms_spec (ws := wsX0_nearest) B.pre
  have hown : s.vm.findClass RX0 = some m.cls := findClass_of_methodNamed B.named
  have hlocks := B.notSynchronized
  have hS : va_S (zA N0) s.heap s.heap [] := va_S.rf
  have hl := lv_entry ([.ref h, .int p]) (n := 2) (Nat.le_of_ble_eq_true rfl)
  rw [lg_entry_eq]
  generalize (lg_sl ([.ref h, .int p]) ++ List.replicate (2 - (lg_sl ([.ref h, .int p])).length) Slot.unset).toArray = ls at hl ⊢
  have hl : lv_has ls 2 [(0, .ref h), (1, .int p)] := hl
  refine lv_iload_n hx hb dX0_nearest_0 rfl (lv_at hl 1 rfl) ?_
  refine vx_callv (vx_runS (As := [.int p]) (rest := []) ⟨hx, hb, hml, hown, hts⟩ (x_X0_requirePitch l hst N0 s.heap p hp) (va_cwS 1 hts gX0_nearest_X0_requirePitch rfl rfl rfl (by decide +kernel) ⟨Nat.le_of_ble_eq_true rfl, Nat.le_of_ble_eq_true rfl⟩) ⟨zPx.blind, zPx.call hN hE hS⟩ rfl rfl hl.1 rfl (lv_room (Nat.le_of_ble_eq_true rfl)) dX0_nearest_1 ⟨Nat.le_refl _, Nat.le_refl _⟩) hS (fun _ _ h9 => h9) (fun _ h9 => h9) (fun _ _ h9 => h9) (fun E ce q9 u t H locs ht hvm hp hB hz1 hk1 hS hce hcv hcl => ?_) (fun u t H locs ht hvm hp hB hz1 hk1 hS => hp.elim)
  obtain ⟨rfl, hB2, hB3⟩ := hB
  exact vx_out (fun x9 h9 => (hnt x9 h9).elim) hlocks hce hcv hcl (fun t' h1 h2 => ⟨(), trivial, ⟨rfl, by rw [h1, ← ht]; exact hB2, fun q hq => by rw [h1, ← ht]; exact hB3 q hq⟩, hS.F h1⟩) hS.2.2 (Nat.le_refl _) (Nat.le_refl _)

set_option maxHeartbeats 4000000 in
set_option maxRecDepth 100000 in
theorem x_X0_stepOf_1 (l : Launch) (hst : l.stackTraces = false) (N0 : Nat) (Hx : Heap) (h : Nat) (p : Int32) (hp : ¬ (zp p)) : vx_Met l yX0_stepOf wsX0_stepOf ({ frames := 8, cells := 1, slots := 6, locals := 124 }) (va_Pc [.ref h, .int p] (fun U => U.heap = Hx ∧ zPe N0 U)) (va_Qi (fun (_ : Int32) (_ : Unit) => False) (fun _ _ => True) (zA N0)) (vx_X (fun (_ : Unit) => True) (fun E _ t => E = xI ∧ Hx.size ≤ t.heap.size ∧ ∀ q : Nat, q < Hx.size → t.heap[q]? = Hx[q]?) (zA N0)) 1 6 (zA N0) := by
  refine vx_ofW (cc := cX0_stepOf) (maxL := 2) (ret := (some .int)) (by decide) rfl ?_
  intro pr e s m ag below meth cd s₁ B hml hnt hv
  obtain ⟨rfl, rfl, hN, hE⟩ := hv
  have hx := B.exec
  have hb := B.bytes
  have hts := atoms_spec (ws := wsX0_stepOf) B.pre
  have hown : s.vm.findClass RX0 = some m.cls := findClass_of_methodNamed B.named
  have hlocks := B.notSynchronized
  have hS : va_S (zA N0) s.heap s.heap [] := va_S.rf
  have hl := lv_entry ([.ref h, .int p]) (n := 2) (Nat.le_of_ble_eq_true rfl)
  rw [lg_entry_eq]
  generalize (lg_sl ([.ref h, .int p]) ++ List.replicate (2 - (lg_sl ([.ref h, .int p])).length) Slot.unset).toArray = ls at hl ⊢
  have hl : lv_has ls 2 [(0, .ref h), (1, .int p)] := hl
  refine lv_iload_n hx hb dX0_stepOf_0 rfl (lv_at hl 1 rfl) ?_
  refine vx_callv (vx_runS (As := [.int p]) (rest := []) ⟨hx, hb, hml, hown, hts⟩ (x_X0_requirePitch l hst N0 s.heap p hp) (va_cwS 1 hts gX0_stepOf_X0_requirePitch rfl rfl rfl (by decide +kernel) ⟨Nat.le_of_ble_eq_true rfl, Nat.le_of_ble_eq_true rfl⟩) ⟨zPx.blind, zPx.call hN hE hS⟩ rfl rfl hl.1 rfl (lv_room (Nat.le_of_ble_eq_true rfl)) dX0_stepOf_1 ⟨Nat.le_refl _, Nat.le_refl _⟩) hS (fun _ _ h9 => h9) (fun _ h9 => h9) (fun _ _ h9 => h9) (fun E ce q9 u t H locs ht hvm hp hB hz1 hk1 hS hce hcv hcl => ?_) (fun u t H locs ht hvm hp hB hz1 hk1 hS => hp.elim)
  obtain ⟨rfl, hB2, hB3⟩ := hB
  exact vx_out (fun x9 h9 => (hnt x9 h9).elim) hlocks hce hcv hcl (fun t' h1 h2 => ⟨(), trivial, ⟨rfl, by rw [h1, ← ht]; exact hB2, fun q hq => by rw [h1, ← ht]; exact hB3 q hq⟩, hS.F h1⟩) hS.2.2 (Nat.le_refl _) (Nat.le_refl _)

set_option maxHeartbeats 4000000 in
set_option maxRecDepth 100000 in
theorem x_X0_rungOf_1 (l : Launch) (hst : l.stackTraces = false) (N0 : Nat) (Hx : Heap) (h : Nat) (w : Int32) (hw : ¬ (zw w)) : vx_Met l yX0_rungOf wsX0_rungOf ({ frames := 8, cells := 1, slots := 6, locals := 124 }) (va_Pc [.ref h, .int w] (fun U => U.heap = Hx ∧ zPe N0 U)) (va_Qi (fun (_ : Int32) (_ : Unit) => False) (fun _ _ => True) (zA N0)) (vx_X (fun (_ : Unit) => True) (fun E _ t => E = xO ∧ Hx.size ≤ t.heap.size ∧ ∀ q : Nat, q < Hx.size → t.heap[q]? = Hx[q]?) (zA N0)) 1 6 (zA N0) := by
  refine vx_ofW (cc := cX0_rungOf) (maxL := 2) (ret := (some .int)) (by decide) rfl ?_
  intro pr e s m ag below meth cd s₁ B hml hnt hv
  obtain ⟨rfl, rfl, hN, hE⟩ := hv
  have hx := B.exec
  have hb := B.bytes
  have hts := atoms_spec (ws := wsX0_rungOf) B.pre
  have hown : s.vm.findClass RX0 = some m.cls := findClass_of_methodNamed B.named
  have hlocks := B.notSynchronized
  have hS : va_S (zA N0) s.heap s.heap [] := va_S.rf
  have hl := lv_entry ([.ref h, .int w]) (n := 2) (Nat.le_of_ble_eq_true rfl)
  rw [lg_entry_eq]
  generalize (lg_sl ([.ref h, .int w]) ++ List.replicate (2 - (lg_sl ([.ref h, .int w])).length) Slot.unset).toArray = ls at hl ⊢
  have hl : lv_has ls 2 [(0, .ref h), (1, .int w)] := hl
  refine lv_iload_n hx hb dX0_rungOf_0 rfl (lv_at hl 1 rfl) ?_
  refine vx_callv (vx_runS (As := [.int w]) (rest := []) ⟨hx, hb, hml, hown, hts⟩ (x_X0_requireWren l hst N0 s.heap w hw) (va_cwS 1 hts gX0_rungOf_X0_requireWren rfl rfl rfl (by decide +kernel) ⟨Nat.le_of_ble_eq_true rfl, Nat.le_of_ble_eq_true rfl⟩) ⟨zPx.blind, zPx.call hN hE hS⟩ rfl rfl hl.1 rfl (lv_room (Nat.le_of_ble_eq_true rfl)) dX0_rungOf_1 ⟨Nat.le_refl _, Nat.le_refl _⟩) hS (fun _ _ h9 => h9) (fun _ h9 => h9) (fun _ _ h9 => h9) (fun E ce q9 u t H locs ht hvm hp hB hz1 hk1 hS hce hcv hcl => ?_) (fun u t H locs ht hvm hp hB hz1 hk1 hS => hp.elim)
  obtain ⟨rfl, hB2, hB3⟩ := hB
  exact vx_out (fun x9 h9 => (hnt x9 h9).elim) hlocks hce hcv hcl (fun t' h1 h2 => ⟨(), trivial, ⟨rfl, by rw [h1, ← ht]; exact hB2, fun q hq => by rw [h1, ← ht]; exact hB3 q hq⟩, hS.F h1⟩) hS.2.2 (Nat.le_refl _) (Nat.le_refl _)

set_option maxHeartbeats 4000000 in
set_option maxRecDepth 100000 in
theorem x_X0_nudgeOf_1 (l : Launch) (hst : l.stackTraces = false) (N0 : Nat) (Hx : Heap) (h : Nat) (w : Int32) (hw : ¬ (zw w)) : vx_Met l yX0_nudgeOf wsX0_nudgeOf ({ frames := 8, cells := 1, slots := 6, locals := 124 }) (va_Pc [.ref h, .int w] (fun U => U.heap = Hx ∧ zPe N0 U)) (va_Qi (fun (_ : Int32) (_ : Unit) => False) (fun _ _ => True) (zA N0)) (vx_X (fun (_ : Unit) => True) (fun E _ t => E = xO ∧ Hx.size ≤ t.heap.size ∧ ∀ q : Nat, q < Hx.size → t.heap[q]? = Hx[q]?) (zA N0)) 1 6 (zA N0) := by
  refine vx_ofW (cc := cX0_nudgeOf) (maxL := 2) (ret := (some .int)) (by decide) rfl ?_
  intro pr e s m ag below meth cd s₁ B hml hnt hv
  obtain ⟨rfl, rfl, hN, hE⟩ := hv
  have hx := B.exec
  have hb := B.bytes
  have hts := atoms_spec (ws := wsX0_nudgeOf) B.pre
  have hown : s.vm.findClass RX0 = some m.cls := findClass_of_methodNamed B.named
  have hlocks := B.notSynchronized
  have hS : va_S (zA N0) s.heap s.heap [] := va_S.rf
  have hl := lv_entry ([.ref h, .int w]) (n := 2) (Nat.le_of_ble_eq_true rfl)
  rw [lg_entry_eq]
  generalize (lg_sl ([.ref h, .int w]) ++ List.replicate (2 - (lg_sl ([.ref h, .int w])).length) Slot.unset).toArray = ls at hl ⊢
  have hl : lv_has ls 2 [(0, .ref h), (1, .int w)] := hl
  refine lv_iload_n hx hb dX0_nudgeOf_0 rfl (lv_at hl 1 rfl) ?_
  refine vx_callv (vx_runS (As := [.int w]) (rest := []) ⟨hx, hb, hml, hown, hts⟩ (x_X0_requireWren l hst N0 s.heap w hw) (va_cwS 1 hts gX0_nudgeOf_X0_requireWren rfl rfl rfl (by decide +kernel) ⟨Nat.le_of_ble_eq_true rfl, Nat.le_of_ble_eq_true rfl⟩) ⟨zPx.blind, zPx.call hN hE hS⟩ rfl rfl hl.1 rfl (lv_room (Nat.le_of_ble_eq_true rfl)) dX0_nudgeOf_1 ⟨Nat.le_refl _, Nat.le_refl _⟩) hS (fun _ _ h9 => h9) (fun _ h9 => h9) (fun _ _ h9 => h9) (fun E ce q9 u t H locs ht hvm hp hB hz1 hk1 hS hce hcv hcl => ?_) (fun u t H locs ht hvm hp hB hz1 hk1 hS => hp.elim)
  obtain ⟨rfl, hB2, hB3⟩ := hB
  exact vx_out (fun x9 h9 => (hnt x9 h9).elim) hlocks hce hcv hcl (fun t' h1 h2 => ⟨(), trivial, ⟨rfl, by rw [h1, ← ht]; exact hB2, fun q hq => by rw [h1, ← ht]; exact hB3 q hq⟩, hS.F h1⟩) hS.2.2 (Nat.le_refl _) (Nat.le_refl _)

set_option maxHeartbeats 4000000 in
set_option maxRecDepth 100000 in
theorem x_X0_framesOf_1 (l : Launch) (hst : l.stackTraces = false) (N0 : Nat) (Hx : Heap) (h : Nat) (w : Int32) (hw : ¬ (zw w)) : vx_Met l yX0_framesOf wsX0_framesOf ({ frames := 8, cells := 1, slots := 6, locals := 124 }) (va_Pc [.ref h, .int w] (fun U => U.heap = Hx ∧ zPe N0 U)) (va_Qi (fun (_ : Int32) (_ : Unit) => False) (fun _ _ => True) (zA N0)) (vx_X (fun (_ : Unit) => True) (fun E _ t => E = xO ∧ Hx.size ≤ t.heap.size ∧ ∀ q : Nat, q < Hx.size → t.heap[q]? = Hx[q]?) (zA N0)) 1 6 (zA N0) := by
  refine vx_ofW (cc := cX0_framesOf) (maxL := 2) (ret := (some .int)) (by decide) rfl ?_
  intro pr e s m ag below meth cd s₁ B hml hnt hv
  obtain ⟨rfl, rfl, hN, hE⟩ := hv
  have hx := B.exec
  have hb := B.bytes
  have hts := atoms_spec (ws := wsX0_framesOf) B.pre
  have hown : s.vm.findClass RX0 = some m.cls := findClass_of_methodNamed B.named
  have hlocks := B.notSynchronized
  have hS : va_S (zA N0) s.heap s.heap [] := va_S.rf
  have hl := lv_entry ([.ref h, .int w]) (n := 2) (Nat.le_of_ble_eq_true rfl)
  rw [lg_entry_eq]
  generalize (lg_sl ([.ref h, .int w]) ++ List.replicate (2 - (lg_sl ([.ref h, .int w])).length) Slot.unset).toArray = ls at hl ⊢
  have hl : lv_has ls 2 [(0, .ref h), (1, .int w)] := hl
  refine lv_iload_n hx hb dX0_framesOf_0 rfl (lv_at hl 1 rfl) ?_
  refine vx_callv (vx_runS (As := [.int w]) (rest := []) ⟨hx, hb, hml, hown, hts⟩ (x_X0_requireWren l hst N0 s.heap w hw) (va_cwS 1 hts gX0_framesOf_X0_requireWren rfl rfl rfl (by decide +kernel) ⟨Nat.le_of_ble_eq_true rfl, Nat.le_of_ble_eq_true rfl⟩) ⟨zPx.blind, zPx.call hN hE hS⟩ rfl rfl hl.1 rfl (lv_room (Nat.le_of_ble_eq_true rfl)) dX0_framesOf_1 ⟨Nat.le_refl _, Nat.le_refl _⟩) hS (fun _ _ h9 => h9) (fun _ h9 => h9) (fun _ _ h9 => h9) (fun E ce q9 u t H locs ht hvm hp hB hz1 hk1 hS hce hcv hcl => ?_) (fun u t H locs ht hvm hp hB hz1 hk1 hS => hp.elim)
  obtain ⟨rfl, hB2, hB3⟩ := hB
  exact vx_out (fun x9 h9 => (hnt x9 h9).elim) hlocks hce hcv hcl (fun t' h1 h2 => ⟨(), trivial, ⟨rfl, by rw [h1, ← ht]; exact hB2, fun q hq => by rw [h1, ← ht]; exact hB3 q hq⟩, hS.F h1⟩) hS.2.2 (Nat.le_refl _) (Nat.le_refl _)

set_option maxHeartbeats 4000000 in
set_option maxRecDepth 100000 in
theorem x_X0_changesOf_1 (l : Launch) (hst : l.stackTraces = false) (N0 : Nat) (Hx : Heap) (h : Nat) (w : Int32) (hw : ¬ (zw w)) : vx_Met l yX0_changesOf wsX0_changesOf ({ frames := 8, cells := 1, slots := 6, locals := 124 }) (va_Pc [.ref h, .int w] (fun U => U.heap = Hx ∧ zPe N0 U)) (va_Qi (fun (_ : Int32) (_ : Unit) => False) (fun _ _ => True) (zA N0)) (vx_X (fun (_ : Unit) => True) (fun E _ t => E = xO ∧ Hx.size ≤ t.heap.size ∧ ∀ q : Nat, q < Hx.size → t.heap[q]? = Hx[q]?) (zA N0)) 1 6 (zA N0) := by
  refine vx_ofW (cc := cX0_changesOf) (maxL := 2) (ret := (some .int)) (by decide) rfl ?_
  intro pr e s m ag below meth cd s₁ B hml hnt hv
  obtain ⟨rfl, rfl, hN, hE⟩ := hv
  have hx := B.exec
  have hb := B.bytes
  have hts := atoms_spec (ws := wsX0_changesOf) B.pre
  have hown : s.vm.findClass RX0 = some m.cls := findClass_of_methodNamed B.named
  have hlocks := B.notSynchronized
  have hS : va_S (zA N0) s.heap s.heap [] := va_S.rf
  have hl := lv_entry ([.ref h, .int w]) (n := 2) (Nat.le_of_ble_eq_true rfl)
  rw [lg_entry_eq]
  generalize (lg_sl ([.ref h, .int w]) ++ List.replicate (2 - (lg_sl ([.ref h, .int w])).length) Slot.unset).toArray = ls at hl ⊢
  have hl : lv_has ls 2 [(0, .ref h), (1, .int w)] := hl
  refine lv_iload_n hx hb dX0_changesOf_0 rfl (lv_at hl 1 rfl) ?_
  refine vx_callv (vx_runS (As := [.int w]) (rest := []) ⟨hx, hb, hml, hown, hts⟩ (x_X0_requireWren l hst N0 s.heap w hw) (va_cwS 1 hts gX0_changesOf_X0_requireWren rfl rfl rfl (by decide +kernel) ⟨Nat.le_of_ble_eq_true rfl, Nat.le_of_ble_eq_true rfl⟩) ⟨zPx.blind, zPx.call hN hE hS⟩ rfl rfl hl.1 rfl (lv_room (Nat.le_of_ble_eq_true rfl)) dX0_changesOf_1 ⟨Nat.le_refl _, Nat.le_refl _⟩) hS (fun _ _ h9 => h9) (fun _ h9 => h9) (fun _ _ h9 => h9) (fun E ce q9 u t H locs ht hvm hp hB hz1 hk1 hS hce hcv hcl => ?_) (fun u t H locs ht hvm hp hB hz1 hk1 hS => hp.elim)
  obtain ⟨rfl, hB2, hB3⟩ := hB
  exact vx_out (fun x9 h9 => (hnt x9 h9).elim) hlocks hce hcv hcl (fun t' h1 h2 => ⟨(), trivial, ⟨rfl, by rw [h1, ← ht]; exact hB2, fun q hq => by rw [h1, ← ht]; exact hB3 q hq⟩, hS.F h1⟩) hS.2.2 (Nat.le_refl _) (Nat.le_refl _)

set_option maxHeartbeats 4000000 in
set_option maxRecDepth 100000 in
theorem x_X0_leapsOf_1 (l : Launch) (hst : l.stackTraces = false) (N0 : Nat) (Hx : Heap) (h : Nat) (w : Int32) (hw : ¬ (zw w)) : vx_Met l yX0_leapsOf wsX0_leapsOf ({ frames := 8, cells := 1, slots := 6, locals := 124 }) (va_Pc [.ref h, .int w] (fun U => U.heap = Hx ∧ zPe N0 U)) (va_Qi (fun (_ : Int32) (_ : Unit) => False) (fun _ _ => True) (zA N0)) (vx_X (fun (_ : Unit) => True) (fun E _ t => E = xO ∧ Hx.size ≤ t.heap.size ∧ ∀ q : Nat, q < Hx.size → t.heap[q]? = Hx[q]?) (zA N0)) 1 6 (zA N0) := by
  refine vx_ofW (cc := cX0_leapsOf) (maxL := 2) (ret := (some .int)) (by decide) rfl ?_
  intro pr e s m ag below meth cd s₁ B hml hnt hv
  obtain ⟨rfl, rfl, hN, hE⟩ := hv
  have hx := B.exec
  have hb := B.bytes
  have hts := atoms_spec (ws := wsX0_leapsOf) B.pre
  have hown : s.vm.findClass RX0 = some m.cls := findClass_of_methodNamed B.named
  have hlocks := B.notSynchronized
  have hS : va_S (zA N0) s.heap s.heap [] := va_S.rf
  have hl := lv_entry ([.ref h, .int w]) (n := 2) (Nat.le_of_ble_eq_true rfl)
  rw [lg_entry_eq]
  generalize (lg_sl ([.ref h, .int w]) ++ List.replicate (2 - (lg_sl ([.ref h, .int w])).length) Slot.unset).toArray = ls at hl ⊢
  have hl : lv_has ls 2 [(0, .ref h), (1, .int w)] := hl
  refine lv_iload_n hx hb dX0_leapsOf_0 rfl (lv_at hl 1 rfl) ?_
  refine vx_callv (vx_runS (As := [.int w]) (rest := []) ⟨hx, hb, hml, hown, hts⟩ (x_X0_requireWren l hst N0 s.heap w hw) (va_cwS 1 hts gX0_leapsOf_X0_requireWren rfl rfl rfl (by decide +kernel) ⟨Nat.le_of_ble_eq_true rfl, Nat.le_of_ble_eq_true rfl⟩) ⟨zPx.blind, zPx.call hN hE hS⟩ rfl rfl hl.1 rfl (lv_room (Nat.le_of_ble_eq_true rfl)) dX0_leapsOf_1 ⟨Nat.le_refl _, Nat.le_refl _⟩) hS (fun _ _ h9 => h9) (fun _ h9 => h9) (fun _ _ h9 => h9) (fun E ce q9 u t H locs ht hvm hp hB hz1 hk1 hS hce hcv hcl => ?_) (fun u t H locs ht hvm hp hB hz1 hk1 hS => hp.elim)
  obtain ⟨rfl, hB2, hB3⟩ := hB
  exact vx_out (fun x9 h9 => (hnt x9 h9).elim) hlocks hce hcv hcl (fun t' h1 h2 => ⟨(), trivial, ⟨rfl, by rw [h1, ← ht]; exact hB2, fun q hq => by rw [h1, ← ht]; exact hB3 q hq⟩, hS.F h1⟩) hS.2.2 (Nat.le_refl _) (Nat.le_refl _)

set_option maxHeartbeats 4000000 in
set_option maxRecDepth 100000 in
theorem x_X0_cleanOf_1 (l : Launch) (hst : l.stackTraces = false) (N0 : Nat) (Hx : Heap) (h : Nat) (w : Int32) (hw : ¬ (zw w)) : vx_Met l yX0_cleanOf wsX0_cleanOf ({ frames := 8, cells := 1, slots := 6, locals := 124 }) (va_Pc [.ref h, .int w] (fun U => U.heap = Hx ∧ zPe N0 U)) (va_Qi (fun (_ : Int32) (_ : Unit) => False) (fun _ _ => True) (zA N0)) (vx_X (fun (_ : Unit) => True) (fun E _ t => E = xO ∧ Hx.size ≤ t.heap.size ∧ ∀ q : Nat, q < Hx.size → t.heap[q]? = Hx[q]?) (zA N0)) 1 6 (zA N0) := by
  refine vx_ofW (cc := cX0_cleanOf) (maxL := 2) (ret := (some .int)) (by decide) rfl ?_
  intro pr e s m ag below meth cd s₁ B hml hnt hv
  obtain ⟨rfl, rfl, hN, hE⟩ := hv
  have hx := B.exec
  have hb := B.bytes
  have hts := atoms_spec (ws := wsX0_cleanOf) B.pre
  have hown : s.vm.findClass RX0 = some m.cls := findClass_of_methodNamed B.named
  have hlocks := B.notSynchronized
  have hS : va_S (zA N0) s.heap s.heap [] := va_S.rf
  have hl := lv_entry ([.ref h, .int w]) (n := 2) (Nat.le_of_ble_eq_true rfl)
  rw [lg_entry_eq]
  generalize (lg_sl ([.ref h, .int w]) ++ List.replicate (2 - (lg_sl ([.ref h, .int w])).length) Slot.unset).toArray = ls at hl ⊢
  have hl : lv_has ls 2 [(0, .ref h), (1, .int w)] := hl
  refine lv_iload_n hx hb dX0_cleanOf_0 rfl (lv_at hl 1 rfl) ?_
  refine vx_callv (vx_runS (As := [.int w]) (rest := []) ⟨hx, hb, hml, hown, hts⟩ (x_X0_requireWren l hst N0 s.heap w hw) (va_cwS 1 hts gX0_cleanOf_X0_requireWren rfl rfl rfl (by decide +kernel) ⟨Nat.le_of_ble_eq_true rfl, Nat.le_of_ble_eq_true rfl⟩) ⟨zPx.blind, zPx.call hN hE hS⟩ rfl rfl hl.1 rfl (lv_room (Nat.le_of_ble_eq_true rfl)) dX0_cleanOf_1 ⟨Nat.le_refl _, Nat.le_refl _⟩) hS (fun _ _ h9 => h9) (fun _ h9 => h9) (fun _ _ h9 => h9) (fun E ce q9 u t H locs ht hvm hp hB hz1 hk1 hS hce hcv hcl => ?_) (fun u t H locs ht hvm hp hB hz1 hk1 hS => hp.elim)
  obtain ⟨rfl, hB2, hB3⟩ := hB
  exact vx_out (fun x9 h9 => (hnt x9 h9).elim) hlocks hce hcv hcl (fun t' h1 h2 => ⟨(), trivial, ⟨rfl, by rw [h1, ← ht]; exact hB2, fun q hq => by rw [h1, ← ht]; exact hB3 q hq⟩, hS.F h1⟩) hS.2.2 (Nat.le_refl _) (Nat.le_refl _)

set_option maxHeartbeats 4000000 in
set_option maxRecDepth 100000 in
theorem x_X0_framesToRung_1 (l : Launch) (hst : l.stackTraces = false) (N0 : Nat) (Hx : Heap) (h : Nat) (w : Int32) (p : Int32) (hw : ¬ (zw w)) : vx_Met l yX0_framesToRung wsX0_framesToRung ({ frames := 8, cells := 1, slots := 6, locals := 124 }) (va_Pc [.ref h, .int w, .int p] (fun U => U.heap = Hx ∧ zPe N0 U)) (va_Qi (fun (_ : Int32) (_ : Unit) => False) (fun _ _ => True) (zA N0)) (vx_X (fun (_ : Unit) => True) (fun E _ t => E = xO ∧ Hx.size ≤ t.heap.size ∧ ∀ q : Nat, q < Hx.size → t.heap[q]? = Hx[q]?) (zA N0)) 1 6 (zA N0) := by
  refine vx_ofW (cc := cX0_framesToRung) (maxL := 6) (ret := (some .int)) (by decide) rfl ?_
  intro pr e s m ag below meth cd s₁ B hml hnt hv
  obtain ⟨rfl, rfl, hN, hE⟩ := hv
  have hx := B.exec
  have hb := B.bytes
  have hts := atoms_spec (ws := wsX0_framesToRung) B.pre
  have hown : s.vm.findClass RX0 = some m.cls := findClass_of_methodNamed B.named
  have hlocks := B.notSynchronized
  have hS : va_S (zA N0) s.heap s.heap [] := va_S.rf
  have hl := lv_entry ([.ref h, .int w, .int p]) (n := 6) (Nat.le_of_ble_eq_true rfl)
  rw [lg_entry_eq]
  generalize (lg_sl ([.ref h, .int w, .int p]) ++ List.replicate (6 - (lg_sl ([.ref h, .int w, .int p])).length) Slot.unset).toArray = ls at hl ⊢
  have hl : lv_has ls 6 [(0, .ref h), (1, .int w), (2, .int p)] := hl
  refine lv_iload_n hx hb dX0_framesToRung_0 rfl (lv_at hl 1 rfl) ?_
  refine vx_callv (vx_runS (As := [.int w]) (rest := []) ⟨hx, hb, hml, hown, hts⟩ (x_X0_requireWren l hst N0 s.heap w hw) (va_cwS 1 hts gX0_framesToRung_X0_requireWren rfl rfl rfl (by decide +kernel) ⟨Nat.le_of_ble_eq_true rfl, Nat.le_of_ble_eq_true rfl⟩) ⟨zPx.blind, zPx.call hN hE hS⟩ rfl rfl hl.1 rfl (lv_room (Nat.le_of_ble_eq_true rfl)) dX0_framesToRung_1 ⟨Nat.le_refl _, Nat.le_refl _⟩) hS (fun _ _ h9 => h9) (fun _ h9 => h9) (fun _ _ h9 => h9) (fun E ce q9 u t H locs ht hvm hp hB hz1 hk1 hS hce hcv hcl => ?_) (fun u t H locs ht hvm hp hB hz1 hk1 hS => hp.elim)
  obtain ⟨rfl, hB2, hB3⟩ := hB
  exact vx_out (fun x9 h9 => (hnt x9 h9).elim) hlocks hce hcv hcl (fun t' h1 h2 => ⟨(), trivial, ⟨rfl, by rw [h1, ← ht]; exact hB2, fun q hq => by rw [h1, ← ht]; exact hB3 q hq⟩, hS.F h1⟩) hS.2.2 (Nat.le_refl _) (Nat.le_refl _)

set_option maxHeartbeats 4000000 in
set_option maxRecDepth 100000 in
theorem x_X0_framesToRung_2 (l : Launch) (hst : l.stackTraces = false) (N0 : Nat) (Hx : Heap) (h : Nat) (w : Int32) (p : Int32) (hw : zw w) (hp : ¬ (zp p)) : vx_Met l yX0_framesToRung wsX0_framesToRung ({ frames := 8, cells := 1, slots := 6, locals := 124 }) (va_Pc [.ref h, .int w, .int p] (fun U => U.heap = Hx ∧ zPe N0 U)) (va_Qi (fun (_ : Int32) (_ : Unit) => False) (fun _ _ => True) (zA N0)) (vx_X (fun (_ : Unit) => True) (fun E _ t => E = xI ∧ Hx.size ≤ t.heap.size ∧ ∀ q : Nat, q < Hx.size → t.heap[q]? = Hx[q]?) (zA N0)) 1 6 (zA N0) := by
  refine vx_ofW (cc := cX0_framesToRung) (maxL := 6) (ret := (some .int)) (by decide) rfl ?_
  intro pr e s m ag below meth cd s₁ B hml hnt hv
  obtain ⟨rfl, rfl, hN, hE⟩ := hv
  have hx := B.exec
  have hb := B.bytes
  have hts := atoms_spec (ws := wsX0_framesToRung) B.pre
  have hown : s.vm.findClass RX0 = some m.cls := findClass_of_methodNamed B.named
  have hlocks := B.notSynchronized
  have hS : va_S (zA N0) s.heap s.heap [] := va_S.rf
  have hl := lv_entry ([.ref h, .int w, .int p]) (n := 6) (Nat.le_of_ble_eq_true rfl)
  rw [lg_entry_eq]
  generalize (lg_sl ([.ref h, .int w, .int p]) ++ List.replicate (6 - (lg_sl ([.ref h, .int w, .int p])).length) Slot.unset).toArray = ls at hl ⊢
  have hl : lv_has ls 6 [(0, .ref h), (1, .int w), (2, .int p)] := hl
  refine lv_iload_n hx hb dX0_framesToRung_0 rfl (lv_at hl 1 rfl) ?_
  refine va_csv ((va_runS (As := [.int w]) (rest := []) ⟨hx, hb, hml, hown, hts⟩ (c_X0_requireWren_v l w hw) (va_cwS 1 hts gX0_framesToRung_X0_requireWren rfl rfl rfl (by decide +kernel) ⟨Nat.le_of_ble_eq_true rfl, Nat.le_of_ble_eq_true rfl⟩) ⟨zT.blind, zT.call⟩ rfl rfl hl.1 rfl (lv_room (Nat.le_of_ble_eq_true rfl)) dX0_framesToRung_1 ⟨Nat.zero_le _, Nat.zero_le _⟩).run) (fun _ => ?_)
  refine lv_iload_n hx hb dX0_framesToRung_4 rfl (lv_at hl 2 rfl) ?_
  refine vx_callv (vx_runS (As := [.int p]) (rest := []) ⟨hx, hb, hml, hown, hts⟩ (x_X0_requirePitch l hst N0 s.heap p hp) (va_cwS 1 hts gX0_framesToRung_X0_requirePitch rfl rfl rfl (by decide +kernel) ⟨Nat.le_of_ble_eq_true rfl, Nat.le_of_ble_eq_true rfl⟩) ⟨zPx.blind, zPx.call hN hE hS⟩ rfl rfl hl.1 rfl (lv_room (Nat.le_of_ble_eq_true rfl)) dX0_framesToRung_5 ⟨Nat.le_refl _, Nat.le_refl _⟩) hS (fun _ _ h9 => h9) (fun _ h9 => h9) (fun _ _ h9 => h9) (fun E ce q9 u t H locs ht hvm hp hB hz1 hk1 hS hce hcv hcl => ?_) (fun u t H locs ht hvm hp hB hz1 hk1 hS => hp.elim)
  obtain ⟨rfl, hB2, hB3⟩ := hB
  exact vx_out (fun x9 h9 => (hnt x9 h9).elim) hlocks hce hcv hcl (fun t' h1 h2 => ⟨(), trivial, ⟨rfl, by rw [h1, ← ht]; exact hB2, fun q hq => by rw [h1, ← ht]; exact hB3 q hq⟩, hS.F h1⟩) hS.2.2 (Nat.le_refl _) (Nat.le_refl _)

set_option maxHeartbeats 4000000 in
set_option maxRecDepth 100000 in
theorem x_X0_bestKey_1 (l : Launch) (hst : l.stackTraces = false) (N0 : Nat) (Hx : Heap) (h : Nat) (md : Int32) (h1 : ¬ (0 ≤ md ∧ md ≤ 7)) : vx_Met l yX0_bestKey wsX0_bestKey ({ frames := 8, cells := 1, slots := 6, locals := 124 }) (va_Pc [.ref h, .int md] (fun U => U.heap = Hx ∧ zPe N0 U)) (va_Qi (fun (_ : Int32) (_ : Unit) => False) (fun _ _ => True) (zA N0)) (vx_X (fun (_ : Unit) => True) (fun E _ t => E = xI ∧ Hx.size ≤ t.heap.size ∧ ∀ q : Nat, q < Hx.size → t.heap[q]? = Hx[q]?) (zA N0)) 1 6 (zA N0) := by
  refine vx_ofW (cc := cX0_bestKey) (maxL := 6) (ret := (some .int)) (by decide) rfl ?_
  intro pr e s m ag below meth cd s₁ B hml hnt hv
  obtain ⟨rfl, rfl, hN, hE⟩ := hv
  have hx := B.exec
  have hb := B.bytes
  have hts := atoms_spec (ws := wsX0_bestKey) B.pre
  have hown : s.vm.findClass RX0 = some m.cls := findClass_of_methodNamed B.named
  have hlocks := B.notSynchronized
  have hS : va_S (zA N0) s.heap s.heap [] := va_S.rf
  have hl := lv_entry ([.ref h, .int md]) (n := 6) (Nat.le_of_ble_eq_true rfl)
  rw [lg_entry_eq]
  generalize (lg_sl ([.ref h, .int md]) ++ List.replicate (6 - (lg_sl ([.ref h, .int md])).length) Slot.unset).toArray = ls at hl ⊢
  have hl : lv_has ls 6 [(0, .ref h), (1, .int md)] := hl
  refine lv_iload_n hx hb dX0_bestKey_0 rfl (lv_at hl 1 rfl) ?_
  refine lv_iconst (v := 0) hx hb dX0_bestKey_1 (by decide) ?_
  refine lv_bipush (v := 7) hx hb dX0_bestKey_2 (by decide) ?_
  refine vx_callv (vx_runS (As := [.int md, .int 0, .int 7]) (rest := []) ⟨hx, hb, hml, hown, hts⟩ (x_X0_requireRange l hst N0 s.heap md 0 7 h1) (va_cwS 3 hts gX0_bestKey_X0_requireRange rfl rfl rfl (by decide +kernel) ⟨Nat.le_of_ble_eq_true rfl, Nat.le_of_ble_eq_true rfl⟩) ⟨zPx.blind, zPx.call hN hE hS⟩ rfl rfl hl.1 rfl (lv_room (Nat.le_of_ble_eq_true rfl)) dX0_bestKey_4 ⟨Nat.le_refl _, Nat.le_refl _⟩) hS (fun _ _ h9 => h9) (fun _ h9 => h9) (fun _ _ h9 => h9) (fun E ce q9 u t H locs ht hvm hp hB hz1 hk1 hS hce hcv hcl => ?_) (fun u t H locs ht hvm hp hB hz1 hk1 hS => hp.elim)
  obtain ⟨rfl, hB2, hB3⟩ := hB
  exact vx_out (fun x9 h9 => (hnt x9 h9).elim) hlocks hce hcv hcl (fun t' h1 h2 => ⟨(), trivial, ⟨rfl, by rw [h1, ← ht]; exact hB2, fun q hq => by rw [h1, ← ht]; exact hB3 q hq⟩, hS.F h1⟩) hS.2.2 (Nat.le_refl _) (Nat.le_refl _)

set_option maxHeartbeats 4000000 in
set_option maxRecDepth 100000 in
theorem x_X0_within_1 (l : Launch) (hst : l.stackTraces = false) (N0 : Nat) (Hx : Heap) (h : Nat) (key : Int32) (md : Int32) (h1 : ¬ (0 ≤ key ∧ key ≤ 11)) : vx_Met l yX0_within wsX0_within ({ frames := 8, cells := 1, slots := 6, locals := 124 }) (va_Pc [.ref h, .int key, .int md] (fun U => U.heap = Hx ∧ zPe N0 U)) (va_Qi (fun (_ : Int32) (_ : Unit) => False) (fun _ _ => True) (zA N0)) (vx_X (fun (_ : Unit) => True) (fun E _ t => E = xI ∧ Hx.size ≤ t.heap.size ∧ ∀ q : Nat, q < Hx.size → t.heap[q]? = Hx[q]?) (zA N0)) 1 6 (zA N0) := by
  refine vx_ofW (cc := cX0_within) (maxL := 3) (ret := (some .int)) (by decide) rfl ?_
  intro pr e s m ag below meth cd s₁ B hml hnt hv
  obtain ⟨rfl, rfl, hN, hE⟩ := hv
  have hx := B.exec
  have hb := B.bytes
  have hts := atoms_spec (ws := wsX0_within) B.pre
  have hown : s.vm.findClass RX0 = some m.cls := findClass_of_methodNamed B.named
  have hlocks := B.notSynchronized
  have hS : va_S (zA N0) s.heap s.heap [] := va_S.rf
  have hl := lv_entry ([.ref h, .int key, .int md]) (n := 3) (Nat.le_of_ble_eq_true rfl)
  rw [lg_entry_eq]
  generalize (lg_sl ([.ref h, .int key, .int md]) ++ List.replicate (3 - (lg_sl ([.ref h, .int key, .int md])).length) Slot.unset).toArray = ls at hl ⊢
  have hl : lv_has ls 3 [(0, .ref h), (1, .int key), (2, .int md)] := hl
  refine lv_iload_n hx hb dX0_within_0 rfl (lv_at hl 1 rfl) ?_
  refine lv_iconst (v := 0) hx hb dX0_within_1 (by decide) ?_
  refine lv_bipush (v := 11) hx hb dX0_within_2 (by decide) ?_
  refine vx_callv (vx_runS (As := [.int key, .int 0, .int 11]) (rest := []) ⟨hx, hb, hml, hown, hts⟩ (x_X0_requireRange l hst N0 s.heap key 0 11 h1) (va_cwS 3 hts gX0_within_X0_requireRange rfl rfl rfl (by decide +kernel) ⟨Nat.le_of_ble_eq_true rfl, Nat.le_of_ble_eq_true rfl⟩) ⟨zPx.blind, zPx.call hN hE hS⟩ rfl rfl hl.1 rfl (lv_room (Nat.le_of_ble_eq_true rfl)) dX0_within_4 ⟨Nat.le_refl _, Nat.le_refl _⟩) hS (fun _ _ h9 => h9) (fun _ h9 => h9) (fun _ _ h9 => h9) (fun E ce q9 u t H locs ht hvm hp hB hz1 hk1 hS hce hcv hcl => ?_) (fun u t H locs ht hvm hp hB hz1 hk1 hS => hp.elim)
  obtain ⟨rfl, hB2, hB3⟩ := hB
  exact vx_out (fun x9 h9 => (hnt x9 h9).elim) hlocks hce hcv hcl (fun t' h1 h2 => ⟨(), trivial, ⟨rfl, by rw [h1, ← ht]; exact hB2, fun q hq => by rw [h1, ← ht]; exact hB3 q hq⟩, hS.F h1⟩) hS.2.2 (Nat.le_refl _) (Nat.le_refl _)

set_option maxHeartbeats 4000000 in
set_option maxRecDepth 100000 in
theorem x_X0_within_2 (l : Launch) (hst : l.stackTraces = false) (N0 : Nat) (Hx : Heap) (h : Nat) (key : Int32) (md : Int32) (h1 : 0 ≤ key ∧ key ≤ 11) (h2 : ¬ (0 ≤ md ∧ md ≤ 7)) : vx_Met l yX0_within wsX0_within ({ frames := 8, cells := 1, slots := 6, locals := 124 }) (va_Pc [.ref h, .int key, .int md] (fun U => U.heap = Hx ∧ zPe N0 U)) (va_Qi (fun (_ : Int32) (_ : Unit) => False) (fun _ _ => True) (zA N0)) (vx_X (fun (_ : Unit) => True) (fun E _ t => E = xI ∧ Hx.size ≤ t.heap.size ∧ ∀ q : Nat, q < Hx.size → t.heap[q]? = Hx[q]?) (zA N0)) 1 6 (zA N0) := by
  refine vx_ofW (cc := cX0_within) (maxL := 3) (ret := (some .int)) (by decide) rfl ?_
  intro pr e s m ag below meth cd s₁ B hml hnt hv
  obtain ⟨rfl, rfl, hN, hE⟩ := hv
  have hx := B.exec
  have hb := B.bytes
  have hts := atoms_spec (ws := wsX0_within) B.pre
  have hown : s.vm.findClass RX0 = some m.cls := findClass_of_methodNamed B.named
  have hlocks := B.notSynchronized
  have hS : va_S (zA N0) s.heap s.heap [] := va_S.rf
  have hl := lv_entry ([.ref h, .int key, .int md]) (n := 3) (Nat.le_of_ble_eq_true rfl)
  rw [lg_entry_eq]
  generalize (lg_sl ([.ref h, .int key, .int md]) ++ List.replicate (3 - (lg_sl ([.ref h, .int key, .int md])).length) Slot.unset).toArray = ls at hl ⊢
  have hl : lv_has ls 3 [(0, .ref h), (1, .int key), (2, .int md)] := hl
  refine lv_iload_n hx hb dX0_within_0 rfl (lv_at hl 1 rfl) ?_
  refine lv_iconst (v := 0) hx hb dX0_within_1 (by decide) ?_
  refine lv_bipush (v := 11) hx hb dX0_within_2 (by decide) ?_
  refine va_csv ((va_runS (As := [.int key, .int 0, .int 11]) (rest := []) ⟨hx, hb, hml, hown, hts⟩ (c_X0_requireRange_v l key 0 11 h1) (va_cwS 3 hts gX0_within_X0_requireRange rfl rfl rfl (by decide +kernel) ⟨Nat.le_of_ble_eq_true rfl, Nat.le_of_ble_eq_true rfl⟩) ⟨zT.blind, zT.call⟩ rfl rfl hl.1 rfl (lv_room (Nat.le_of_ble_eq_true rfl)) dX0_within_4 ⟨Nat.zero_le _, Nat.zero_le _⟩).run) (fun _ => ?_)
  refine lv_iload_n hx hb dX0_within_7 rfl (lv_at hl 2 rfl) ?_
  refine lv_iconst (v := 0) hx hb dX0_within_8 (by decide) ?_
  refine lv_bipush (v := 7) hx hb dX0_within_9 (by decide) ?_
  refine vx_callv (vx_runS (As := [.int md, .int 0, .int 7]) (rest := []) ⟨hx, hb, hml, hown, hts⟩ (x_X0_requireRange l hst N0 s.heap md 0 7 h2) (va_cwS 3 hts gX0_within_X0_requireRange rfl rfl rfl (by decide +kernel) ⟨Nat.le_of_ble_eq_true rfl, Nat.le_of_ble_eq_true rfl⟩) ⟨zPx.blind, zPx.call hN hE hS⟩ rfl rfl hl.1 rfl (lv_room (Nat.le_of_ble_eq_true rfl)) dX0_within_11 ⟨Nat.le_refl _, Nat.le_refl _⟩) hS (fun _ _ h9 => h9) (fun _ h9 => h9) (fun _ _ h9 => h9) (fun E ce q9 u t H locs ht hvm hp hB hz1 hk1 hS hce hcv hcl => ?_) (fun u t H locs ht hvm hp hB hz1 hk1 hS => hp.elim)
  obtain ⟨rfl, hB2, hB3⟩ := hB
  exact vx_out (fun x9 h9 => (hnt x9 h9).elim) hlocks hce hcv hcl (fun t' h1 h2 => ⟨(), trivial, ⟨rfl, by rw [h1, ← ht]; exact hB2, fun q hq => by rw [h1, ← ht]; exact hB3 q hq⟩, hS.F h1⟩) hS.2.2 (Nat.le_refl _) (Nat.le_refl _)

set_option maxHeartbeats 4000000 in
set_option maxRecDepth 100000 in
theorem x_X0_sung_1 (l : Launch) (hst : l.stackTraces = false) (N0 : Nat) (Hx : Heap) (h : Nat) (k : Int32) (hk : ¬ (0 ≤ k ∧ k ≤ 11)) : vx_Met l yX0_sung wsX0_sung ({ frames := 8, cells := 1, slots := 6, locals := 124 }) (va_Pc [.ref h, .int k] (fun U => U.heap = Hx ∧ zPe N0 U)) (va_Qi (fun (_ : Int32) (_ : Unit) => False) (fun _ _ => True) (zA N0)) (vx_X (fun (_ : Unit) => True) (fun E _ t => E = xO ∧ Hx.size ≤ t.heap.size ∧ ∀ q : Nat, q < Hx.size → t.heap[q]? = Hx[q]?) (zA N0)) 1 6 (zA N0) := by
  refine vx_ofW (cc := cX0_sung) (maxL := 2) (ret := (some .int)) (by decide) rfl ?_
  intro pr e s m ag below meth cd s₁ B hml hnt hv
  obtain ⟨rfl, rfl, hN, hE⟩ := hv
  have hx := B.exec
  have hb := B.bytes
  have hts := atoms_spec (ws := wsX0_sung) B.pre
  have hown : s.vm.findClass RX0 = some m.cls := findClass_of_methodNamed B.named
  have hlocks := B.notSynchronized
  have hS : va_S (zA N0) s.heap s.heap [] := va_S.rf
  have hl := lv_entry ([.ref h, .int k]) (n := 2) (Nat.le_of_ble_eq_true rfl)
  rw [lg_entry_eq]
  generalize (lg_sl ([.ref h, .int k]) ++ List.replicate (2 - (lg_sl ([.ref h, .int k])).length) Slot.unset).toArray = ls at hl ⊢
  have hl : lv_has ls 2 [(0, .ref h), (1, .int k)] := hl
  refine lv_iload_n hx hb dX0_sung_0 rfl (lv_at hl 1 rfl) ?_
  refine lv_if_lt (tgt := 10) hx hb dX0_sung_1 (by decide) (fun c_1 => ?_) (fun c_1 => ?_)
  · obtain ⟨sa, hsa⟩ := hE.2.2.2.2.2.2.1
    have hat : ∀ w ∈ vx_atS RX0 79 xO ["java/lang/RuntimeException", "java/lang/Exception"], w.before _ s = true := vx_hat (fun w h9 => hts w (zx_in_X0_sung w h9)) zx_woO (hE.2.2.2.2.2.2.2.2.2.use)
    exact vx_throwS (cls := xO) (names := ["java/lang/RuntimeException", "java/lang/Exception"]) (ik := 75) (is := 95) (ic := 79) hx hb hst hown (by decide +kernel) (by decide +kernel) (hts (.classLink RX0 75 xO) (by decide +kernel)) (hts (.initialized xO) (by decide +kernel)) hsa hat zx_otO79 hE.2.1 hE.2.2.1 hS (hl.1.trans hml.symm) dX0_sung_10 dX0_sung_13 dX0_sung_14 dX0_sung_16 dX0_sung_19 (fun x9 h9 => (hnt x9 h9).elim) (Nat.le_of_ble_eq_true rfl) (Nat.le_of_ble_eq_true rfl) (Nat.le_of_ble_eq_true rfl) (Nat.le_of_ble_eq_true rfl) hlocks (fun t _ h8 h9 => ⟨(), trivial, ⟨rfl, h8, h9⟩, h8, fun q h6 _ => h9 q h6⟩) hS.2.2 (Nat.le_refl _) (Nat.le_refl _)
  · refine lv_iload_n hx hb dX0_sung_4 rfl (lv_at hl 1 rfl) ?_
    refine lv_bipush (v := 12) hx hb dX0_sung_5 (by decide) ?_
    refine lv_icmp_lt (tgt := 20) hx hb dX0_sung_7 (by decide) (fun c_7 => ?_) (fun c_7 => ?_)
    · exact absurd (zk_of (Int32.not_lt.mp c_1) c_7) hk
    · obtain ⟨sa, hsa⟩ := hE.2.2.2.2.2.2.1
      have hat : ∀ w ∈ vx_atS RX0 79 xO ["java/lang/RuntimeException", "java/lang/Exception"], w.before _ s = true := vx_hat (fun w h9 => hts w (zx_in_X0_sung w h9)) zx_woO (hE.2.2.2.2.2.2.2.2.2.use)
      exact vx_throwS (cls := xO) (names := ["java/lang/RuntimeException", "java/lang/Exception"]) (ik := 75) (is := 95) (ic := 79) hx hb hst hown (by decide +kernel) (by decide +kernel) (hts (.classLink RX0 75 xO) (by decide +kernel)) (hts (.initialized xO) (by decide +kernel)) hsa hat zx_otO79 hE.2.1 hE.2.2.1 hS (hl.1.trans hml.symm) dX0_sung_10 dX0_sung_13 dX0_sung_14 dX0_sung_16 dX0_sung_19 (fun x9 h9 => (hnt x9 h9).elim) (Nat.le_of_ble_eq_true rfl) (Nat.le_of_ble_eq_true rfl) (Nat.le_of_ble_eq_true rfl) (Nat.le_of_ble_eq_true rfl) hlocks (fun t _ h8 h9 => ⟨(), trivial, ⟨rfl, h8, h9⟩, h8, fun q h6 _ => h9 q h6⟩) hS.2.2 (Nat.le_refl _) (Nat.le_refl _)

set_option maxHeartbeats 4000000 in
set_option maxRecDepth 100000 in
theorem x_X0_rung_1 (l : Launch) (hst : l.stackTraces = false) (N0 : Nat) (Hx : Heap) (D : va_G) (cA cL : ClassId) (E : va_W) (d : Nat → Nat) (z : S7) (c : C5) (h : Nat) (num : Int32) (hc : okC c) (hv : zRg c num < 0) : vx_Met l yX0_rung wsX0_rung ({ frames := 8, cells := 1, slots := 6, locals := 124 }) (va_Pc [.ref h, .int num] (fun U => U.heap = Hx ∧ zPre D N0 cA cL (wX h d cA z c ++ E) U)) (va_Qi (fun (_ : Int32) (_ : Unit) => False) (fun _ _ => True) (zA N0)) (vx_X (fun (_ : Unit) => True) (fun E _ t => E = xO ∧ Hx.size ≤ t.heap.size ∧ ∀ q : Nat, q < Hx.size → t.heap[q]? = Hx[q]?) (zA N0)) 1 6 (zA N0) := by
  refine vx_ofW (cc := cX0_rung) (maxL := 4) (ret := (some .int)) (by decide) rfl ?_
  intro pr e s m ag below meth cd s₁ B hml hnt hv
  obtain ⟨rfl, rfl, hN, hP, hD, hK, hE⟩ := hv
  have hx := B.exec
  have hb := B.bytes
  have hts := atoms_spec (ws := wsX0_rung) B.pre
  have hown : s.vm.findClass RX0 = some m.cls := findClass_of_methodNamed B.named
  have hlocks := B.notSynchronized
  have hS : va_S (zA N0) s.heap s.heap [] := va_S.rf
  have hl := lv_entry ([.ref h, .int num]) (n := 4) (Nat.le_of_ble_eq_true rfl)
  rw [lg_entry_eq]
  generalize (lg_sl ([.ref h, .int num]) ++ List.replicate (4 - (lg_sl ([.ref h, .int num])).length) Slot.unset).toArray = ls at hl ⊢
  have hl : lv_has ls 4 [(0, .ref h), (1, .int num)] := hl
  have loop : ∀ (n : Nat) (k : Nat), k ≤ 121 → 122 ≤ k + n → ∀ (ls : Array Slot), lv_has ls 4 [(2, .int (zRcn c k)), (3, .int (nI (100 * k))), (0, .ref h), (1, .int num)] → W pr l e (headSpec wsX0_rung ({ frames := 8, cells := 1, slots := 6, locals := 124 })).room s m ([.ref h, .int num] : List Value).toArray below meth cd s.heap [] 0 0 (vx_MQ below (va_Qi (fun (_ : Int32) (_ : Unit) => False) (fun _ _ => True) (zA N0)) (vx_X (fun (_ : Unit) => True) (fun E _ t => E = xO ∧ s.heap.size ≤ t.heap.size ∧ ∀ q : Nat, q < s.heap.size → t.heap[q]? = s.heap[q]?) (zA N0)) ([.ref h, .int num] : List Value).toArray s 1 6 (zA N0)) (F0 m 4 ls []) := by
    intro n
    induction n with
    | zero =>
      intro k hk hn
      omega
    | succ n ih =>
      intro k hk hn ls hl
      refine lv_iload_n hx hb dX0_rung_4 rfl (lv_at hl 1 rfl) ?_
      refine lv_sipush (v := 12000) hx hb dX0_rung_5 (by decide) ?_
      refine lv_icmp_gt (tgt := 35) hx hb dX0_rung_8 (by decide) (fun c_8 => ?_) (fun c_8 => ?_)
      · have hk1 : k = 121 := by have := (nI_ltI (a := 12000) (by decide) (by omega)).mp c_8; omega
        subst hk1
        obtain ⟨sa, hsa⟩ := hE.2.2.2.2.2.1
        have hat : ∀ w ∈ vx_atS RX0 79 xO ["java/lang/RuntimeException", "java/lang/Exception"], w.before _ s = true := vx_hat (fun w h9 => hts w (zx_in_X0_rung w h9)) zx_woO (hE.2.2.2.2.2.2.2.2.2.use)
        exact vx_throwS (cls := xO) (names := ["java/lang/RuntimeException", "java/lang/Exception"]) (ik := 75) (is := 77) (ic := 79) hx hb hst hown (by decide +kernel) (by decide +kernel) (hts (.classLink RX0 75 xO) (by decide +kernel)) (hts (.initialized xO) (by decide +kernel)) hsa hat zx_otO79 hE.2.1 hE.2.2.1 hS (hl.1.trans hml.symm) dX0_rung_35 dX0_rung_38 dX0_rung_39 dX0_rung_41 dX0_rung_44 (fun x9 h9 => (hnt x9 h9).elim) (Nat.le_of_ble_eq_true rfl) (Nat.le_of_ble_eq_true rfl) (Nat.le_of_ble_eq_true rfl) (Nat.le_of_ble_eq_true rfl) hlocks (fun t _ h8 h9 => ⟨(), trivial, ⟨rfl, h8, h9⟩, h8, fun q h6 _ => h9 q h6⟩) hS.2.2 (Nat.le_refl _) (Nat.le_refl _)
      · have hk1 : k < 121 := by
          rcases Nat.lt_or_ge k 121 with q | q
          · exact q
          · exact absurd ((nI_ltI (a := 12000) (by decide) (by omega)).mpr (by omega)) c_8
        refine lv_aload_n hx hb dX0_rung_11 rfl (lv_at hl 2 rfl) ?_
        refine lv_iload_n hx hb dX0_rung_12 rfl (lv_at hl 1 rfl) ?_
        refine vp_callSi ((va_runV (As := [.int (nI (100 * k))]) (rest := []) ⟨hx, hb, hml, hown, hts⟩ (c_X0_isRung l D N0 cA cL E h d z c (nI (100 * k)) hc) (cwV 1 hts gX0_rung_X0_isRung rfl rfl rfl (by decide +kernel) ⟨Nat.le_of_ble_eq_true rfl, Nat.le_of_ble_eq_true rfl⟩) ⟨zPre.blind, va_recv hK hP (ci := 0) (q0 := 0) rfl rfl, zPre.call hN hP hD hK hE hS⟩ rfl rfl hl.1 rfl (lv_room (Nat.le_of_ble_eq_true rfl)) dX0_rung_13 ⟨Nat.zero_le _, Nat.zero_le _⟩).run) (fun r_13 h_13 => ?_)
        have h_13 : r_13 = (zb (¬ zStep c (nI (100 * k)) = -1)) := h_13
        subst h_13
        refine lv_if_eq (tgt := 29) hx hb dX0_rung_16 (by decide) (fun c_16 => ?_) (fun c_16 => ?_)
        · refine lv_iinc (v := (nI (100 * (k + 1)))) (lv' := [(3, .int (nI (100 * (k + 1)))), (2, .int (zRcn c k)), (0, .ref h), (1, .int num)]) hx hb dX0_rung_29 hl (k := 1) rfl (z_inc (100 * k) 100) (by decide) rfl (fun ls hl => ?_)
          refine lv_goto (tgt := 4) hx hb dX0_rung_32 (by decide) ?_
          have hl : lv_has ls 4 [(3, .int (nI (100 * (k + 1)))), (2, .int (zRcn c (k + 1))), (0, .ref h), (1, .int num)] := by
            rw [show ((zRcn c (k + 1)) : Int32) = (zRcn c k) from (zRcn_0 ((zStep_neg hc _).mpr (Decidable.not_not.mp (zb_f c_16))))]
            exact hl
          exact ih (k + 1) (by omega) (by omega) ls (lv_sub hl [1, 0, 2, 3] rfl)
        · refine lv_iload_n hx hb dX0_rung_19 rfl (lv_at hl 0 rfl) ?_
          refine lv_iload_n hx hb dX0_rung_20 rfl (lv_at hl 3 rfl) ?_
          refine lv_icmp_ne (tgt := 26) hx hb dX0_rung_21 (by decide) (fun c_21 => ?_) (fun c_21 => ?_)
          · refine lv_iinc (v := ((zRcn c k) + 1)) (lv' := [(2, .int ((zRcn c k) + 1)), (3, .int (nI (100 * k))), (0, .ref h), (1, .int num)]) hx hb dX0_rung_26 hl (k := 0) rfl rfl (by decide) rfl (fun ls hl => ?_)
            refine lv_iinc (v := (nI (100 * (k + 1)))) (lv' := [(3, .int (nI (100 * (k + 1)))), (2, .int ((zRcn c k) + 1)), (0, .ref h), (1, .int num)]) hx hb dX0_rung_29 hl (k := 1) rfl (z_inc (100 * k) 100) (by decide) rfl (fun ls hl => ?_)
            refine lv_goto (tgt := 4) hx hb dX0_rung_32 (by decide) ?_
            have hl : lv_has ls 4 [(3, .int (nI (100 * (k + 1)))), (2, .int (zRcn c (k + 1))), (0, .ref h), (1, .int num)] := by
              rw [show ((zRcn c (k + 1)) : Int32) = ((zRcn c k) + 1) from (zRcn_1 (fun q => zb_t c_16 ((zStep_neg hc _).mp q)))]
              exact hl
            exact ih (k + 1) (by omega) (by omega) ls (lv_sub hl [1, 0, 2, 3] rfl)
          · refine lv_iload_n hx hb dX0_rung_24 rfl (lv_at hl 1 rfl) ?_
            exact absurd (show zRg c num < 0 from hv) (by rw [zRg_hit hk1 (fun q => zb_t c_16 ((zStep_neg hc _).mp q)) c_21.symm]; exact nI_pos (by omega))
  refine lv_iconst (v := 0) hx hb dX0_rung_0 (by decide) ?_
  refine lv_istore_n (lv' := [(2, .int 0), (0, .ref h), (1, .int num)]) hx hb dX0_rung_1 rfl hl (by decide) rfl (fun ls hl => ?_)
  refine lv_iconst (v := 0) hx hb dX0_rung_2 (by decide) ?_
  refine lv_istore_n (lv' := [(3, .int 0), (2, .int 0), (0, .ref h), (1, .int num)]) hx hb dX0_rung_3 rfl hl (by decide) rfl (fun ls hl => ?_)
  exact loop 122 0 (by decide) (by decide) ls (lv_sub hl [1, 0, 2, 3] rfl)
end
section
theorem zSem_lt (p : Int32) : zSem p < 12 := Nat.mod_lt _ (by decide)
theorem zPit_ok {a b : Int32} {f k : Nat} (ha : zp a) (hb : zp b) (hf : 2 ≤ f) (hf2 : f ≤ 50) (hk : k < f) : zp (zPit a b f k) := by
  have h1 := zp_n ha
  have h2 := zp_n hb
  have h3 : a.toNatClampNeg * (f - 1 - k) ≤ 12000 * (f - 1 - k) := Nat.mul_le_mul_right _ h1
  have h4 : b.toNatClampNeg * k ≤ 12000 * k := Nat.mul_le_mul_right _ h2
  have h5 : 12000 * (f - 1 - k) + 12000 * k = 12000 * (f - 1) := by rw [← Nat.mul_add]; congr 1; omega
  have h6 : (a.toNatClampNeg * (f - 1 - k) + b.toNatClampNeg * k) / (f - 1) ≤ 12000 := by
    refine Nat.div_le_of_le_mul ?_
    rw [Nat.mul_comm (f - 1)]
    omega
  exact zn_in (n := 12000) h6 (by decide)
theorem zPit_X {a b : Int32} {f k : Nat} (ha : zp a) (hb : zp b) (hf : 2 ≤ f) (hf2 : f ≤ 50) (hk : k < f) : a + zFD ((b - a) * nI k) (f - 1) = zPit a b f k := by
  obtain ⟨m, hm, rfl⟩ := nI_of2 (n := 12000) (M := 12000) rfl (Int32.not_lt.mpr ha.1) ha.2
  obtain ⟨n, hn, rfl⟩ := nI_of2 (n := 12000) (M := 12000) rfl (Int32.not_lt.mpr hb.1) hb.2
  unfold zPit
  rw [nI_clamp (by omega), nI_clamp (by omega)]
  have e1 : (nI n - nI m).toInt = (n : Int) - m := pk_sub_toInt (by omega) (by omega)
  have ek : (nI k).toInt = (k : Int) := nI_toInt (by omega)
  have b1 : n * k ≤ 12000 * 49 := Nat.mul_le_mul hn (by omega)
  have b2 : m * k ≤ 12000 * 49 := Nat.mul_le_mul hm (by omega)
  have e2 : ((n : Int) - m) * k = ((n * k : Nat) : Int) - ((m * k : Nat) : Int) := by rw [Int.sub_mul]; simp
  have e3 : ((nI n - nI m) * nI k).toInt = ((n * k : Nat) : Int) - ((m * k : Nat) : Int) := by
    rw [fb_mulI (by rw [e1, ek, e2]; omega) (by rw [e1, ek, e2]; omega), e1, ek, e2]
  have h5 : m * (f - 1 - k) + m * k = m * (f - 1) := by rw [← Nat.mul_add]; congr 1; omega
  have e4 : ((m * (f - 1 - k) + n * k : Nat) : Int) = (((n * k : Nat) : Int) - ((m * k : Nat) : Int)) + (m : Int) * ((f - 1 : Nat) : Int) := by
    have h6 : ((m * (f - 1) : Nat) : Int) = (m : Int) * ((f - 1 : Nat) : Int) := by simp
    rw [← h6]
    omega
  have h7 : (m * (f - 1 - k) + n * k) / (f - 1) ≤ 12000 := by
    refine Nat.div_le_of_le_mul ?_
    have h3 : m * (f - 1 - k) ≤ 12000 * (f - 1 - k) := Nat.mul_le_mul_right _ hm
    have h4 : n * k ≤ 12000 * k := Nat.mul_le_mul_right _ hn
    have h8 : 12000 * (f - 1 - k) + 12000 * k = 12000 * (f - 1) := by rw [← Nat.mul_add]; congr 1; omega
    rw [Nat.mul_comm (f - 1)]
    omega
  have e5 : (((m * (f - 1 - k) + n * k) / (f - 1) : Nat) : Int) = ((((n * k : Nat) : Int) - ((m * k : Nat) : Int)) / ((f - 1 : Nat) : Int)) + m := by
    rw [Int.natCast_ediv, e4, Int.add_mul_ediv_right _ _ (by omega)]
  have em : (nI m).toInt = (m : Int) := nI_toInt (by omega)
  have ez := zFD_toInt ((nI n - nI m) * nI k) (d := f - 1) (by omega)
  rw [e3] at ez
  generalize (((n * k : Nat) : Int) - ((m * k : Nat) : Int)) / ((f - 1 : Nat) : Int) = Q at ez e5
  generalize (m * (f - 1 - k) + n * k) / (f - 1) = N at e5 h7 ⊢
  rw [fa_eq, fb_addI (by rw [em, ez]; omega) (by rw [em, ez]; omega), em, ez, nI_toInt (by omega), e5]
  omega
theorem zLn_0 {c : C5} {r : Nat → Int32} {k : Nat} (h : ¬ (¬ (zLn c r k).1 k = -1 ∧ zStep c ((zLn c r k).1 k) = -1)) : zLn c r (k + 1) = zLn c r k := if_neg h
theorem zLn_1 {c : C5} {r : Nat → Int32} {k : Nat} (h : ¬ (zLn c r k).1 k = -1) (h2 : zStep c ((zLn c r k).1 k) = -1) : zLn c r (k + 1) = (upd (zLn c r k).1 k (-1), (zLn c r k).2 + 1) := if_pos ⟨h, h2⟩

set_option maxHeartbeats 4000000 in
set_option maxRecDepth 100000 in
theorem c_X0_setNudging_v (l : Launch) (D : va_G) (N0 : Nat) (cA cL : ClassId) (E : va_W) (h : Nat) (d : Nat → Nat) (z : S7) (c : C5) (sp : Int32) (le : Int32) (gl : Int32) (h1 : 0 ≤ sp ∧ sp ≤ 100) (h2 : 0 ≤ le ∧ le ≤ 600) (h3 : 0 ≤ gl ∧ gl ≤ 12000) : Met l yX0_setNudging wsX0_setNudging ({ frames := 1, cells := 0, slots := 0, locals := 22 }) (va_Pc [.ref h, .int sp, .int le, .int gl] (zPre D N0 cA cL (wX h d cA z c ++ E))) (va_Qv (fun (_ : Unit) => True) (fun _ t => zPost D N0 (wX h d cA z (c.1, c.2.1, sp, le, gl) ++ E) t) (zA N0)) 0 0 (zA N0) := by
  refine Met.ofW (cc := cX0_setNudging) (maxL := 4) (ret := none) (by decide) rfl ?_
  intro pr e s m ag below meth cd s₁ B hml hv
  obtain ⟨rfl, hN, hP, hD, hK, hE⟩ := hv
  have hx := B.exec
  have hb := B.bytes
  have hr := B.returns
  have hts := atoms_spec (ws := wsX0_setNudging) B.pre
  have hown : s.vm.findClass RX0 = some m.cls := findClass_of_methodNamed B.named
  have hlocks := B.notSynchronized
  have hS : va_S (zA N0) s.heap s.heap [] := va_S.rf
  have hiw : ∀ w ∈ u_ws RX0 TX0 12, w ∈ wsX0_setNudging := by decide +kernel
  have hl := lv_entry ([.ref h, .int sp, .int le, .int gl]) (n := 4) (Nat.le_of_ble_eq_true rfl)
  rw [lg_entry_eq]
  generalize (lg_sl ([.ref h, .int sp, .int le, .int gl]) ++ List.replicate (4 - (lg_sl ([.ref h, .int sp, .int le, .int gl])).length) Slot.unset).toArray = ls at hl ⊢
  have hl : lv_has ls 4 [(0, .ref h), (1, .int sp), (2, .int le), (3, .int gl)] := hl
  refine lv_iload_n hx hb dX0_setNudging_0 rfl (lv_at hl 1 rfl) ?_
  refine lv_iconst (v := 0) hx hb dX0_setNudging_1 (by decide) ?_
  refine lv_bipush (v := 100) hx hb dX0_setNudging_2 (by decide) ?_
  refine va_csv ((va_runS (As := [.int sp, .int 0, .int 100]) (rest := []) ⟨hx, hb, hml, hown, hts⟩ (c_X0_requireRange_v l sp 0 100 h1) (va_cwS 3 hts gX0_setNudging_X0_requireRange rfl rfl rfl (by decide +kernel) ⟨Nat.le_of_ble_eq_true rfl, Nat.le_of_ble_eq_true rfl⟩) ⟨zT.blind, zT.call⟩ rfl rfl hl.1 rfl (lv_room (Nat.le_of_ble_eq_true rfl)) dX0_setNudging_4 ⟨Nat.zero_le _, Nat.zero_le _⟩).run) (fun _ => ?_)
  refine lv_iload_n hx hb dX0_setNudging_7 rfl (lv_at hl 2 rfl) ?_
  refine lv_iconst (v := 0) hx hb dX0_setNudging_8 (by decide) ?_
  refine lv_sipush (v := 600) hx hb dX0_setNudging_9 (by decide) ?_
  refine va_csv ((va_runS (As := [.int le, .int 0, .int 600]) (rest := []) ⟨hx, hb, hml, hown, hts⟩ (c_X0_requireRange_v l le 0 600 h2) (va_cwS 3 hts gX0_setNudging_X0_requireRange rfl rfl rfl (by decide +kernel) ⟨Nat.le_of_ble_eq_true rfl, Nat.le_of_ble_eq_true rfl⟩) ⟨zT.blind, zT.call⟩ rfl rfl hl.1 rfl (lv_room (Nat.le_of_ble_eq_true rfl)) dX0_setNudging_12 ⟨Nat.zero_le _, Nat.zero_le _⟩).run) (fun _ => ?_)
  refine lv_iload_n hx hb dX0_setNudging_15 rfl (lv_at hl 3 rfl) ?_
  refine lv_iconst (v := 0) hx hb dX0_setNudging_16 (by decide) ?_
  refine lv_sipush (v := 12000) hx hb dX0_setNudging_17 (by decide) ?_
  refine va_csv ((va_runS (As := [.int gl, .int 0, .int 12000]) (rest := []) ⟨hx, hb, hml, hown, hts⟩ (c_X0_requireRange_v l gl 0 12000 h3) (va_cwS 3 hts gX0_setNudging_X0_requireRange rfl rfl rfl (by decide +kernel) ⟨Nat.le_of_ble_eq_true rfl, Nat.le_of_ble_eq_true rfl⟩) ⟨zT.blind, zT.call⟩ rfl rfl hl.1 rfl (lv_room (Nat.le_of_ble_eq_true rfl)) dX0_setNudging_20 ⟨Nat.zero_le _, Nat.zero_le _⟩).run) (fun _ => ?_)
  refine lv_aload_n hx hb dX0_setNudging_23 rfl (lv_at hl 0 rfl) ?_
  refine lv_iload_n hx hb dX0_setNudging_24 rfl (lv_at hl 1 rfl) ?_
  refine va_put (D := D) (ci := 0) (v := .int sp) (ty := .int) (C := RX0) (T := TX0) (N := 12) hx hb hts hiw tyX0 tyX0_ok nmX0 hown hK hP hD hS 0 rfl rfl 9 (by decide) (hts (.fieldLink RX0 38 "TunedWrens" "nudgeSpeed" "I") (by decide +kernel)) (fun _ h9 => h9) rfl (by decide +kernel) rfl rfl (Nat.le_of_ble_eq_true rfl) dX0_setNudging_25 (fun H locs hP hD hS => ?_)
  have hP : va_P D vwCl (wX h d cA z (c.1, c.2.1, sp, c.2.2.2.1, c.2.2.2.2) ++ E) H := hP
  have hD : va_D (zA N0) (wX h d cA z (c.1, c.2.1, sp, c.2.2.2.1, c.2.2.2.2) ++ E) := hD
  refine lv_aload_n hx hb dX0_setNudging_28 rfl (lv_at hl 0 rfl) ?_
  refine lv_iload_n hx hb dX0_setNudging_29 rfl (lv_at hl 2 rfl) ?_
  refine va_put (D := D) (ci := 0) (v := .int le) (ty := .int) (C := RX0) (T := TX0) (N := 12) hx hb hts hiw tyX0 tyX0_ok nmX0 hown hK hP hD hS 0 rfl rfl 10 (by decide) (hts (.fieldLink RX0 41 "TunedWrens" "rungLeash" "I") (by decide +kernel)) (fun _ h9 => h9) rfl (by decide +kernel) rfl rfl (Nat.le_of_ble_eq_true rfl) dX0_setNudging_30 (fun H locs hP hD hS => ?_)
  have hP : va_P D vwCl (wX h d cA z (c.1, c.2.1, sp, le, c.2.2.2.2) ++ E) H := hP
  have hD : va_D (zA N0) (wX h d cA z (c.1, c.2.1, sp, le, c.2.2.2.2) ++ E) := hD
  refine lv_aload_n hx hb dX0_setNudging_33 rfl (lv_at hl 0 rfl) ?_
  refine lv_iload_n hx hb dX0_setNudging_34 rfl (lv_at hl 3 rfl) ?_
  refine va_put (D := D) (ci := 0) (v := .int gl) (ty := .int) (C := RX0) (T := TX0) (N := 12) hx hb hts hiw tyX0 tyX0_ok nmX0 hown hK hP hD hS 0 rfl rfl 11 (by decide) (hts (.fieldLink RX0 44 "TunedWrens" "leapGlide" "I") (by decide +kernel)) (fun _ h9 => h9) rfl (by decide +kernel) rfl rfl (Nat.le_of_ble_eq_true rfl) dX0_setNudging_35 (fun H locs hP hD hS => ?_)
  have hP : va_P D vwCl (wX h d cA z (c.1, c.2.1, sp, le, gl) ++ E) H := hP
  have hD : va_D (zA N0) (wX h d cA z (c.1, c.2.1, sp, le, gl) ++ E) := hD
  exact W.vret hx hb hr (fun t ht hW => ⟨⟨(), rfl, trivial, ⟨by rw [ht]; exact hP, hD⟩⟩, hS.F ht⟩) hS.2.2 dX0_setNudging_38

set_option maxHeartbeats 4000000 in
set_option maxRecDepth 100000 in
theorem c_X0_singFrame (l : Launch) (D : va_G) (N0 : Nat) (cA cL : ClassId) (E : va_W) (h : Nat) (d : Nat → Nat) (z : S7) (c : C5) (w : Int32) (p : Int32) (hc : okC c) (hw : zw w) (hp : zp p) : Met l yX0_singFrame wsX0_singFrame ({ frames := 6, cells := 0, slots := 0, locals := 135 }) (va_Pc [.ref h, .int w, .int p] (zPre D N0 cA cL (wX h d cA z c ++ E))) (va_Qi (fun (rv : Int32) (_ : Unit) => rv = zOut c w.toNatClampNeg p z) (fun _ t => zPost D N0 (wX h d cA (zSg c w.toNatClampNeg p z) c ++ E) t) (zA N0)) 0 0 (zA N0) := by
  refine Met.ofW (cc := cX0_singFrame) (maxL := 7) (ret := (some .int)) (by decide) rfl ?_
  intro pr e s m ag below meth cd s₁ B hml hv
  obtain ⟨rfl, hN, hP, hD, hK, hE⟩ := hv
  have hx := B.exec
  have hb := B.bytes
  have hr := B.returns
  have hts := atoms_spec (ws := wsX0_singFrame) B.pre
  have hown : s.vm.findClass RX0 = some m.cls := findClass_of_methodNamed B.named
  have hlocks := B.notSynchronized
  have hS : va_S (zA N0) s.heap s.heap [] := va_S.rf
  have hiw : ∀ w ∈ u_ws RX0 TX0 12, w ∈ wsX0_singFrame := by decide +kernel
  have hl := lv_entry ([.ref h, .int w, .int p]) (n := 7) (Nat.le_of_ble_eq_true rfl)
  rw [lg_entry_eq]
  generalize (lg_sl ([.ref h, .int w, .int p]) ++ List.replicate (7 - (lg_sl ([.ref h, .int w, .int p])).length) Slot.unset).toArray = ls at hl ⊢
  have hl : lv_has ls 7 [(0, .ref h), (1, .int w), (2, .int p)] := hl
  have j115 : ∀ (H : Heap) (locs : List Loc), va_P D vwCl (wX h d cA ((upd z.1 w.toNatClampNeg (zR c w.toNatClampNeg p z)), (upd z.2.1 w.toNatClampNeg (zG c w.toNatClampNeg p z)), (upd z.2.2.1 w.toNatClampNeg (z.2.2.1 w.toNatClampNeg + 1)), (zB (zChg (z.1 w.toNatClampNeg) (zR c w.toNatClampNeg p z)) z.2.2.2.1 w.toNatClampNeg), (zB (zLeap c (z.1 w.toNatClampNeg) (zR c w.toNatClampNeg p z)) z.2.2.2.2.1 w.toNatClampNeg), (zB (¬ zStep c (zOut c w.toNatClampNeg p z) = -1) z.2.2.2.2.2.1 w.toNatClampNeg), z.2.2.2.2.2.2) c ++ E) H → va_D (zA N0) (wX h d cA ((upd z.1 w.toNatClampNeg (zR c w.toNatClampNeg p z)), (upd z.2.1 w.toNatClampNeg (zG c w.toNatClampNeg p z)), (upd z.2.2.1 w.toNatClampNeg (z.2.2.1 w.toNatClampNeg + 1)), (zB (zChg (z.1 w.toNatClampNeg) (zR c w.toNatClampNeg p z)) z.2.2.2.1 w.toNatClampNeg), (zB (zLeap c (z.1 w.toNatClampNeg) (zR c w.toNatClampNeg p z)) z.2.2.2.2.1 w.toNatClampNeg), (zB (¬ zStep c (zOut c w.toNatClampNeg p z) = -1) z.2.2.2.2.2.1 w.toNatClampNeg), z.2.2.2.2.2.2) c ++ E) → va_S (zA N0) s.heap H locs → ∀ (ls : Array Slot), lv_has ls 7 [(6, .int (zOut c w.toNatClampNeg p z)), (5, .int (zG c w.toNatClampNeg p z)), (4, .int (zR c w.toNatClampNeg p z)), (3, .int (z.1 w.toNatClampNeg)), (0, .ref h), (1, .int w), (2, .int p)] → W pr l e (headSpec wsX0_singFrame ({ frames := 6, cells := 0, slots := 0, locals := 135 })).room s m ([.ref h, .int w, .int p] : List Value).toArray below meth cd H locs 0 0 (MQ below (va_Qi (fun (rv : Int32) (_ : Unit) => rv = zOut c w.toNatClampNeg p z) (fun _ t => zPost D N0 (wX h d cA (zSg c w.toNatClampNeg p z) c ++ E) t) (zA N0)) ([.ref h, .int w, .int p] : List Value).toArray s 0 0 (zA N0)) (F0 m 115 ls []) := by
    intro H locs hP hD hS ls hl
    refine lv_aload_n hx hb dX0_singFrame_115 rfl (lv_at hl 4 rfl) ?_
    refine va_get (D := D) (ci := 0) (v := .ref (d 6)) (C := RX0) (T := TX0) (N := 12) hx hb hts hiw hown hK hP 0 rfl rfl 6 (by decide) (hts (.fieldLink RX0 28 "TunedWrens" "framesOfSemitone" "[I") (by decide +kernel)) (fun _ h9 => h9) rfl dX0_singFrame_116 ?_
    refine lv_iload_n hx hb dX0_singFrame_119 rfl (lv_at hl 6 rfl) ?_
    refine vp_callSi ((va_runS (As := [.int p]) (rest := [.ref (d 6)]) ⟨hx, hb, hml, hown, hts⟩ (c_X0_nearestSemitone l p hp) (va_cwS 1 hts gX0_singFrame_X0_nearestSemitone rfl rfl rfl (by decide +kernel) ⟨Nat.le_of_ble_eq_true rfl, Nat.le_of_ble_eq_true rfl⟩) ⟨zT.blind, zT.call⟩ rfl rfl hl.1 rfl (lv_room (Nat.le_of_ble_eq_true rfl)) dX0_singFrame_120 ⟨Nat.zero_le _, Nat.zero_le _⟩).run) (fun r_120 h_120 => ?_)
    have h_120 : r_120 = (nI (zSem p)) := h_120
    subst h_120
    refine lv_dup2_11 hx hb dX0_singFrame_123 rfl rfl ?_
    refine va_iald hx hb hK hP 7 0 rfl rfl (vp_in_nI (zSem_lt p) (by decide)) dX0_singFrame_124 ?_
    refine lv_iconst (v := 1) hx hb dX0_singFrame_125 (by decide) ?_
    refine lv_iadd hx hb dX0_singFrame_126 ?_
    refine va_iast hx hb hK hP hD hS 7 0 rfl rfl (vp_in_nI (zSem_lt p) (by decide)) dX0_singFrame_127 (fun H locs hP hD hS => ?_)
    have hP : va_P D vwCl (wX h d cA ((upd z.1 w.toNatClampNeg (zR c w.toNatClampNeg p z)), (upd z.2.1 w.toNatClampNeg (zG c w.toNatClampNeg p z)), (upd z.2.2.1 w.toNatClampNeg (z.2.2.1 w.toNatClampNeg + 1)), (zB (zChg (z.1 w.toNatClampNeg) (zR c w.toNatClampNeg p z)) z.2.2.2.1 w.toNatClampNeg), (zB (zLeap c (z.1 w.toNatClampNeg) (zR c w.toNatClampNeg p z)) z.2.2.2.2.1 w.toNatClampNeg), (zB (¬ zStep c (zOut c w.toNatClampNeg p z) = -1) z.2.2.2.2.2.1 w.toNatClampNeg), (upd z.2.2.2.2.2.2 (nI (zSem p)).toNatClampNeg ((z.2.2.2.2.2.2 (nI (zSem p)).toNatClampNeg) + 1))) c ++ E) H := hP
    have hD : va_D (zA N0) (wX h d cA ((upd z.1 w.toNatClampNeg (zR c w.toNatClampNeg p z)), (upd z.2.1 w.toNatClampNeg (zG c w.toNatClampNeg p z)), (upd z.2.2.1 w.toNatClampNeg (z.2.2.1 w.toNatClampNeg + 1)), (zB (zChg (z.1 w.toNatClampNeg) (zR c w.toNatClampNeg p z)) z.2.2.2.1 w.toNatClampNeg), (zB (zLeap c (z.1 w.toNatClampNeg) (zR c w.toNatClampNeg p z)) z.2.2.2.2.1 w.toNatClampNeg), (zB (¬ zStep c (zOut c w.toNatClampNeg p z) = -1) z.2.2.2.2.2.1 w.toNatClampNeg), (upd z.2.2.2.2.2.2 (nI (zSem p)).toNatClampNeg ((z.2.2.2.2.2.2 (nI (zSem p)).toNatClampNeg) + 1))) c ++ E) := hD
    refine lv_iload hx hb dX0_singFrame_128 (lv_at hl 0 rfl) ?_
    rw [nI_clamp (show zSem p < 2 ^ 31 by have := zSem_lt p; omega)] at hP hD
    exact W.iret (v := (zOut c w.toNatClampNeg p z)) hx hb hr (fun t ht hW => ⟨⟨_, (), rfl, rfl, ⟨by rw [ht]; exact hP, hD⟩⟩, hS.F ht⟩) hS.2.2 dX0_singFrame_130
  have j96 : ∀ (H : Heap) (locs : List Loc), va_P D vwCl (wX h d cA ((upd z.1 w.toNatClampNeg (zR c w.toNatClampNeg p z)), (upd z.2.1 w.toNatClampNeg (zG c w.toNatClampNeg p z)), (upd z.2.2.1 w.toNatClampNeg (z.2.2.1 w.toNatClampNeg + 1)), (zB (zChg (z.1 w.toNatClampNeg) (zR c w.toNatClampNeg p z)) z.2.2.2.1 w.toNatClampNeg), (zB (zLeap c (z.1 w.toNatClampNeg) (zR c w.toNatClampNeg p z)) z.2.2.2.2.1 w.toNatClampNeg), z.2.2.2.2.2.1, z.2.2.2.2.2.2) c ++ E) H → va_D (zA N0) (wX h d cA ((upd z.1 w.toNatClampNeg (zR c w.toNatClampNeg p z)), (upd z.2.1 w.toNatClampNeg (zG c w.toNatClampNeg p z)), (upd z.2.2.1 w.toNatClampNeg (z.2.2.1 w.toNatClampNeg + 1)), (zB (zChg (z.1 w.toNatClampNeg) (zR c w.toNatClampNeg p z)) z.2.2.2.1 w.toNatClampNeg), (zB (zLeap c (z.1 w.toNatClampNeg) (zR c w.toNatClampNeg p z)) z.2.2.2.2.1 w.toNatClampNeg), z.2.2.2.2.2.1, z.2.2.2.2.2.2) c ++ E) → va_S (zA N0) s.heap H locs → ∀ (ls : Array Slot), lv_has ls 7 [(6, .int (zOut c w.toNatClampNeg p z)), (5, .int (zG c w.toNatClampNeg p z)), (4, .int (zR c w.toNatClampNeg p z)), (3, .int (z.1 w.toNatClampNeg)), (0, .ref h), (1, .int w), (2, .int p)] → W pr l e (headSpec wsX0_singFrame ({ frames := 6, cells := 0, slots := 0, locals := 135 })).room s m ([.ref h, .int w, .int p] : List Value).toArray below meth cd H locs 0 0 (MQ below (va_Qi (fun (rv : Int32) (_ : Unit) => rv = zOut c w.toNatClampNeg p z) (fun _ t => zPost D N0 (wX h d cA (zSg c w.toNatClampNeg p z) c ++ E) t) (zA N0)) ([.ref h, .int w, .int p] : List Value).toArray s 0 0 (zA N0)) (F0 m 96 ls []) := by
    intro H locs hP hD hS ls hl
    refine lv_aload_n hx hb dX0_singFrame_96 rfl (lv_at hl 4 rfl) ?_
    refine lv_iload hx hb dX0_singFrame_97 (lv_at hl 0 rfl) ?_
    refine vp_callSi ((va_runV (As := [.int (zOut c w.toNatClampNeg p z)]) (rest := []) ⟨hx, hb, hml, hown, hts⟩ (c_X0_isRung l D N0 cA cL E h d ((upd z.1 w.toNatClampNeg (zR c w.toNatClampNeg p z)), (upd z.2.1 w.toNatClampNeg (zG c w.toNatClampNeg p z)), (upd z.2.2.1 w.toNatClampNeg (z.2.2.1 w.toNatClampNeg + 1)), (zB (zChg (z.1 w.toNatClampNeg) (zR c w.toNatClampNeg p z)) z.2.2.2.1 w.toNatClampNeg), (zB (zLeap c (z.1 w.toNatClampNeg) (zR c w.toNatClampNeg p z)) z.2.2.2.2.1 w.toNatClampNeg), z.2.2.2.2.2.1, z.2.2.2.2.2.2) c (zOut c w.toNatClampNeg p z) hc) (cwV 1 hts gX0_singFrame_X0_isRung rfl rfl rfl (by decide +kernel) ⟨Nat.le_of_ble_eq_true rfl, Nat.le_of_ble_eq_true rfl⟩) ⟨zPre.blind, va_recv hK hP (ci := 0) (q0 := 0) rfl rfl, zPre.call hN hP hD hK hE hS⟩ rfl rfl hl.1 rfl (lv_room (Nat.le_of_ble_eq_true rfl)) dX0_singFrame_99 ⟨Nat.zero_le _, Nat.zero_le _⟩).run) (fun r_99 h_99 => ?_)
    have h_99 : r_99 = (zb (¬ zStep c (zOut c w.toNatClampNeg p z) = -1)) := h_99
    subst h_99
    refine lv_if_eq (tgt := 115) hx hb dX0_singFrame_102 (by decide) (fun c_102 => ?_) (fun c_102 => ?_)
    · have hP : va_P D vwCl (wX h d cA ((upd z.1 w.toNatClampNeg (zR c w.toNatClampNeg p z)), (upd z.2.1 w.toNatClampNeg (zG c w.toNatClampNeg p z)), (upd z.2.2.1 w.toNatClampNeg (z.2.2.1 w.toNatClampNeg + 1)), (zB (zChg (z.1 w.toNatClampNeg) (zR c w.toNatClampNeg p z)) z.2.2.2.1 w.toNatClampNeg), (zB (zLeap c (z.1 w.toNatClampNeg) (zR c w.toNatClampNeg p z)) z.2.2.2.2.1 w.toNatClampNeg), (zB (¬ zStep c (zOut c w.toNatClampNeg p z) = -1) z.2.2.2.2.2.1 w.toNatClampNeg), z.2.2.2.2.2.2) c ++ E) H := by
        rw [show ((zB (¬ zStep c (zOut c w.toNatClampNeg p z) = -1) z.2.2.2.2.2.1 w.toNatClampNeg) : Nat → Int32) = z.2.2.2.2.2.1 from if_neg (zb_f c_102)]
        exact hP
      have hD : va_D (zA N0) (wX h d cA ((upd z.1 w.toNatClampNeg (zR c w.toNatClampNeg p z)), (upd z.2.1 w.toNatClampNeg (zG c w.toNatClampNeg p z)), (upd z.2.2.1 w.toNatClampNeg (z.2.2.1 w.toNatClampNeg + 1)), (zB (zChg (z.1 w.toNatClampNeg) (zR c w.toNatClampNeg p z)) z.2.2.2.1 w.toNatClampNeg), (zB (zLeap c (z.1 w.toNatClampNeg) (zR c w.toNatClampNeg p z)) z.2.2.2.2.1 w.toNatClampNeg), (zB (¬ zStep c (zOut c w.toNatClampNeg p z) = -1) z.2.2.2.2.2.1 w.toNatClampNeg), z.2.2.2.2.2.2) c ++ E) := by
        rw [show ((zB (¬ zStep c (zOut c w.toNatClampNeg p z) = -1) z.2.2.2.2.2.1 w.toNatClampNeg) : Nat → Int32) = z.2.2.2.2.2.1 from if_neg (zb_f c_102)]
        exact hD
      exact j115 _ _ hP hD hS ls (lv_sub hl [0, 1, 2, 3, 4, 5, 6] rfl)
    · refine lv_aload_n hx hb dX0_singFrame_105 rfl (lv_at hl 4 rfl) ?_
      refine va_get (D := D) (ci := 0) (v := .ref (d 5)) (C := RX0) (T := TX0) (N := 12) hx hb hts hiw hown hK hP 0 rfl rfl 5 (by decide) (hts (.fieldLink RX0 25 "TunedWrens" "cleanOfWren" "[I") (by decide +kernel)) (fun _ h9 => h9) rfl dX0_singFrame_106 ?_
      refine lv_iload_n hx hb dX0_singFrame_109 rfl (lv_at hl 5 rfl) ?_
      refine lv_dup2_11 hx hb dX0_singFrame_110 rfl rfl ?_
      refine va_iald hx hb hK hP 6 0 rfl rfl (zw_in hw) dX0_singFrame_111 ?_
      refine lv_iconst (v := 1) hx hb dX0_singFrame_112 (by decide) ?_
      refine lv_iadd hx hb dX0_singFrame_113 ?_
      refine va_iast hx hb hK hP hD hS 6 0 rfl rfl (zw_in hw) dX0_singFrame_114 (fun H locs hP hD hS => ?_)
      have hP : va_P D vwCl (wX h d cA ((upd z.1 w.toNatClampNeg (zR c w.toNatClampNeg p z)), (upd z.2.1 w.toNatClampNeg (zG c w.toNatClampNeg p z)), (upd z.2.2.1 w.toNatClampNeg (z.2.2.1 w.toNatClampNeg + 1)), (zB (zChg (z.1 w.toNatClampNeg) (zR c w.toNatClampNeg p z)) z.2.2.2.1 w.toNatClampNeg), (zB (zLeap c (z.1 w.toNatClampNeg) (zR c w.toNatClampNeg p z)) z.2.2.2.2.1 w.toNatClampNeg), (upd z.2.2.2.2.2.1 w.toNatClampNeg ((z.2.2.2.2.2.1 w.toNatClampNeg) + 1)), z.2.2.2.2.2.2) c ++ E) H := hP
      have hD : va_D (zA N0) (wX h d cA ((upd z.1 w.toNatClampNeg (zR c w.toNatClampNeg p z)), (upd z.2.1 w.toNatClampNeg (zG c w.toNatClampNeg p z)), (upd z.2.2.1 w.toNatClampNeg (z.2.2.1 w.toNatClampNeg + 1)), (zB (zChg (z.1 w.toNatClampNeg) (zR c w.toNatClampNeg p z)) z.2.2.2.1 w.toNatClampNeg), (zB (zLeap c (z.1 w.toNatClampNeg) (zR c w.toNatClampNeg p z)) z.2.2.2.2.1 w.toNatClampNeg), (upd z.2.2.2.2.2.1 w.toNatClampNeg ((z.2.2.2.2.2.1 w.toNatClampNeg) + 1)), z.2.2.2.2.2.2) c ++ E) := hD
      have hP : va_P D vwCl (wX h d cA ((upd z.1 w.toNatClampNeg (zR c w.toNatClampNeg p z)), (upd z.2.1 w.toNatClampNeg (zG c w.toNatClampNeg p z)), (upd z.2.2.1 w.toNatClampNeg (z.2.2.1 w.toNatClampNeg + 1)), (zB (zChg (z.1 w.toNatClampNeg) (zR c w.toNatClampNeg p z)) z.2.2.2.1 w.toNatClampNeg), (zB (zLeap c (z.1 w.toNatClampNeg) (zR c w.toNatClampNeg p z)) z.2.2.2.2.1 w.toNatClampNeg), (zB (¬ zStep c (zOut c w.toNatClampNeg p z) = -1) z.2.2.2.2.2.1 w.toNatClampNeg), z.2.2.2.2.2.2) c ++ E) H := by
        rw [show ((zB (¬ zStep c (zOut c w.toNatClampNeg p z) = -1) z.2.2.2.2.2.1 w.toNatClampNeg) : Nat → Int32) = (upd z.2.2.2.2.2.1 w.toNatClampNeg ((z.2.2.2.2.2.1 w.toNatClampNeg) + 1)) from if_pos (zb_t c_102)]
        exact hP
      have hD : va_D (zA N0) (wX h d cA ((upd z.1 w.toNatClampNeg (zR c w.toNatClampNeg p z)), (upd z.2.1 w.toNatClampNeg (zG c w.toNatClampNeg p z)), (upd z.2.2.1 w.toNatClampNeg (z.2.2.1 w.toNatClampNeg + 1)), (zB (zChg (z.1 w.toNatClampNeg) (zR c w.toNatClampNeg p z)) z.2.2.2.1 w.toNatClampNeg), (zB (zLeap c (z.1 w.toNatClampNeg) (zR c w.toNatClampNeg p z)) z.2.2.2.2.1 w.toNatClampNeg), (zB (¬ zStep c (zOut c w.toNatClampNeg p z) = -1) z.2.2.2.2.2.1 w.toNatClampNeg), z.2.2.2.2.2.2) c ++ E) := by
        rw [show ((zB (¬ zStep c (zOut c w.toNatClampNeg p z) = -1) z.2.2.2.2.2.1 w.toNatClampNeg) : Nat → Int32) = (upd z.2.2.2.2.2.1 w.toNatClampNeg ((z.2.2.2.2.2.1 w.toNatClampNeg) + 1)) from if_pos (zb_t c_102)]
        exact hD
      exact j115 _ _ hP hD hS ls (lv_sub hl [0, 1, 2, 3, 4, 5, 6] rfl)
  have j76 : ∀ (H : Heap) (locs : List Loc), va_P D vwCl (wX h d cA ((upd z.1 w.toNatClampNeg (zR c w.toNatClampNeg p z)), (upd z.2.1 w.toNatClampNeg (zG c w.toNatClampNeg p z)), (upd z.2.2.1 w.toNatClampNeg (z.2.2.1 w.toNatClampNeg + 1)), (zB (zChg (z.1 w.toNatClampNeg) (zR c w.toNatClampNeg p z)) z.2.2.2.1 w.toNatClampNeg), z.2.2.2.2.1, z.2.2.2.2.2.1, z.2.2.2.2.2.2) c ++ E) H → va_D (zA N0) (wX h d cA ((upd z.1 w.toNatClampNeg (zR c w.toNatClampNeg p z)), (upd z.2.1 w.toNatClampNeg (zG c w.toNatClampNeg p z)), (upd z.2.2.1 w.toNatClampNeg (z.2.2.1 w.toNatClampNeg + 1)), (zB (zChg (z.1 w.toNatClampNeg) (zR c w.toNatClampNeg p z)) z.2.2.2.1 w.toNatClampNeg), z.2.2.2.2.1, z.2.2.2.2.2.1, z.2.2.2.2.2.2) c ++ E) → va_S (zA N0) s.heap H locs → ∀ (ls : Array Slot), lv_has ls 7 [(6, .int (zOut c w.toNatClampNeg p z)), (5, .int (zG c w.toNatClampNeg p z)), (4, .int (zR c w.toNatClampNeg p z)), (3, .int (z.1 w.toNatClampNeg)), (0, .ref h), (1, .int w), (2, .int p)] → W pr l e (headSpec wsX0_singFrame ({ frames := 6, cells := 0, slots := 0, locals := 135 })).room s m ([.ref h, .int w, .int p] : List Value).toArray below meth cd H locs 0 0 (MQ below (va_Qi (fun (rv : Int32) (_ : Unit) => rv = zOut c w.toNatClampNeg p z) (fun _ t => zPost D N0 (wX h d cA (zSg c w.toNatClampNeg p z) c ++ E) t) (zA N0)) ([.ref h, .int w, .int p] : List Value).toArray s 0 0 (zA N0)) (F0 m 76 ls []) := by
    intro H locs hP hD hS ls hl
    refine lv_aload_n hx hb dX0_singFrame_76 rfl (lv_at hl 4 rfl) ?_
    refine lv_iload_n hx hb dX0_singFrame_77 rfl (lv_at hl 3 rfl) ?_
    refine lv_iload hx hb dX0_singFrame_78 (lv_at hl 2 rfl) ?_
    refine vp_callSi ((va_runV (As := [.int (z.1 w.toNatClampNeg), .int (zR c w.toNatClampNeg p z)]) (rest := []) ⟨hx, hb, hml, hown, hts⟩ (c_X0_isLeap l D N0 cA cL E h d ((upd z.1 w.toNatClampNeg (zR c w.toNatClampNeg p z)), (upd z.2.1 w.toNatClampNeg (zG c w.toNatClampNeg p z)), (upd z.2.2.1 w.toNatClampNeg (z.2.2.1 w.toNatClampNeg + 1)), (zB (zChg (z.1 w.toNatClampNeg) (zR c w.toNatClampNeg p z)) z.2.2.2.1 w.toNatClampNeg), z.2.2.2.2.1, z.2.2.2.2.2.1, z.2.2.2.2.2.2) c (z.1 w.toNatClampNeg) (zR c w.toNatClampNeg p z)) (cwV 2 hts gX0_singFrame_X0_isLeap rfl rfl rfl (by decide +kernel) ⟨Nat.le_of_ble_eq_true rfl, Nat.le_of_ble_eq_true rfl⟩) ⟨zPre.blind, va_recv hK hP (ci := 0) (q0 := 0) rfl rfl, zPre.call hN hP hD hK hE hS⟩ rfl rfl hl.1 rfl (lv_room (Nat.le_of_ble_eq_true rfl)) dX0_singFrame_80 ⟨Nat.zero_le _, Nat.zero_le _⟩).run) (fun r_80 h_80 => ?_)
    have h_80 : r_80 = (zb (zLeap c (z.1 w.toNatClampNeg) (zR c w.toNatClampNeg p z))) := h_80
    subst h_80
    refine lv_if_eq (tgt := 96) hx hb dX0_singFrame_83 (by decide) (fun c_83 => ?_) (fun c_83 => ?_)
    · have hP : va_P D vwCl (wX h d cA ((upd z.1 w.toNatClampNeg (zR c w.toNatClampNeg p z)), (upd z.2.1 w.toNatClampNeg (zG c w.toNatClampNeg p z)), (upd z.2.2.1 w.toNatClampNeg (z.2.2.1 w.toNatClampNeg + 1)), (zB (zChg (z.1 w.toNatClampNeg) (zR c w.toNatClampNeg p z)) z.2.2.2.1 w.toNatClampNeg), (zB (zLeap c (z.1 w.toNatClampNeg) (zR c w.toNatClampNeg p z)) z.2.2.2.2.1 w.toNatClampNeg), z.2.2.2.2.2.1, z.2.2.2.2.2.2) c ++ E) H := by
        rw [show ((zB (zLeap c (z.1 w.toNatClampNeg) (zR c w.toNatClampNeg p z)) z.2.2.2.2.1 w.toNatClampNeg) : Nat → Int32) = z.2.2.2.2.1 from if_neg (zb_f c_83)]
        exact hP
      have hD : va_D (zA N0) (wX h d cA ((upd z.1 w.toNatClampNeg (zR c w.toNatClampNeg p z)), (upd z.2.1 w.toNatClampNeg (zG c w.toNatClampNeg p z)), (upd z.2.2.1 w.toNatClampNeg (z.2.2.1 w.toNatClampNeg + 1)), (zB (zChg (z.1 w.toNatClampNeg) (zR c w.toNatClampNeg p z)) z.2.2.2.1 w.toNatClampNeg), (zB (zLeap c (z.1 w.toNatClampNeg) (zR c w.toNatClampNeg p z)) z.2.2.2.2.1 w.toNatClampNeg), z.2.2.2.2.2.1, z.2.2.2.2.2.2) c ++ E) := by
        rw [show ((zB (zLeap c (z.1 w.toNatClampNeg) (zR c w.toNatClampNeg p z)) z.2.2.2.2.1 w.toNatClampNeg) : Nat → Int32) = z.2.2.2.2.1 from if_neg (zb_f c_83)]
        exact hD
      exact j96 _ _ hP hD hS ls (lv_sub hl [0, 1, 2, 3, 4, 5, 6] rfl)
    · refine lv_aload_n hx hb dX0_singFrame_86 rfl (lv_at hl 4 rfl) ?_
      refine va_get (D := D) (ci := 0) (v := .ref (d 4)) (C := RX0) (T := TX0) (N := 12) hx hb hts hiw hown hK hP 0 rfl rfl 4 (by decide) (hts (.fieldLink RX0 22 "TunedWrens" "leapsOfWren" "[I") (by decide +kernel)) (fun _ h9 => h9) rfl dX0_singFrame_87 ?_
      refine lv_iload_n hx hb dX0_singFrame_90 rfl (lv_at hl 5 rfl) ?_
      refine lv_dup2_11 hx hb dX0_singFrame_91 rfl rfl ?_
      refine va_iald hx hb hK hP 5 0 rfl rfl (zw_in hw) dX0_singFrame_92 ?_
      refine lv_iconst (v := 1) hx hb dX0_singFrame_93 (by decide) ?_
      refine lv_iadd hx hb dX0_singFrame_94 ?_
      refine va_iast hx hb hK hP hD hS 5 0 rfl rfl (zw_in hw) dX0_singFrame_95 (fun H locs hP hD hS => ?_)
      have hP : va_P D vwCl (wX h d cA ((upd z.1 w.toNatClampNeg (zR c w.toNatClampNeg p z)), (upd z.2.1 w.toNatClampNeg (zG c w.toNatClampNeg p z)), (upd z.2.2.1 w.toNatClampNeg (z.2.2.1 w.toNatClampNeg + 1)), (zB (zChg (z.1 w.toNatClampNeg) (zR c w.toNatClampNeg p z)) z.2.2.2.1 w.toNatClampNeg), (upd z.2.2.2.2.1 w.toNatClampNeg ((z.2.2.2.2.1 w.toNatClampNeg) + 1)), z.2.2.2.2.2.1, z.2.2.2.2.2.2) c ++ E) H := hP
      have hD : va_D (zA N0) (wX h d cA ((upd z.1 w.toNatClampNeg (zR c w.toNatClampNeg p z)), (upd z.2.1 w.toNatClampNeg (zG c w.toNatClampNeg p z)), (upd z.2.2.1 w.toNatClampNeg (z.2.2.1 w.toNatClampNeg + 1)), (zB (zChg (z.1 w.toNatClampNeg) (zR c w.toNatClampNeg p z)) z.2.2.2.1 w.toNatClampNeg), (upd z.2.2.2.2.1 w.toNatClampNeg ((z.2.2.2.2.1 w.toNatClampNeg) + 1)), z.2.2.2.2.2.1, z.2.2.2.2.2.2) c ++ E) := hD
      have hP : va_P D vwCl (wX h d cA ((upd z.1 w.toNatClampNeg (zR c w.toNatClampNeg p z)), (upd z.2.1 w.toNatClampNeg (zG c w.toNatClampNeg p z)), (upd z.2.2.1 w.toNatClampNeg (z.2.2.1 w.toNatClampNeg + 1)), (zB (zChg (z.1 w.toNatClampNeg) (zR c w.toNatClampNeg p z)) z.2.2.2.1 w.toNatClampNeg), (zB (zLeap c (z.1 w.toNatClampNeg) (zR c w.toNatClampNeg p z)) z.2.2.2.2.1 w.toNatClampNeg), z.2.2.2.2.2.1, z.2.2.2.2.2.2) c ++ E) H := by
        rw [show ((zB (zLeap c (z.1 w.toNatClampNeg) (zR c w.toNatClampNeg p z)) z.2.2.2.2.1 w.toNatClampNeg) : Nat → Int32) = (upd z.2.2.2.2.1 w.toNatClampNeg ((z.2.2.2.2.1 w.toNatClampNeg) + 1)) from if_pos (zb_t c_83)]
        exact hP
      have hD : va_D (zA N0) (wX h d cA ((upd z.1 w.toNatClampNeg (zR c w.toNatClampNeg p z)), (upd z.2.1 w.toNatClampNeg (zG c w.toNatClampNeg p z)), (upd z.2.2.1 w.toNatClampNeg (z.2.2.1 w.toNatClampNeg + 1)), (zB (zChg (z.1 w.toNatClampNeg) (zR c w.toNatClampNeg p z)) z.2.2.2.1 w.toNatClampNeg), (zB (zLeap c (z.1 w.toNatClampNeg) (zR c w.toNatClampNeg p z)) z.2.2.2.2.1 w.toNatClampNeg), z.2.2.2.2.2.1, z.2.2.2.2.2.2) c ++ E) := by
        rw [show ((zB (zLeap c (z.1 w.toNatClampNeg) (zR c w.toNatClampNeg p z)) z.2.2.2.2.1 w.toNatClampNeg) : Nat → Int32) = (upd z.2.2.2.2.1 w.toNatClampNeg ((z.2.2.2.2.1 w.toNatClampNeg) + 1)) from if_pos (zb_t c_83)]
        exact hD
      exact j96 _ _ hP hD hS ls (lv_sub hl [0, 1, 2, 3, 4, 5, 6] rfl)
  refine lv_aload_n hx hb dX0_singFrame_0 rfl (lv_at hl 0 rfl) ?_
  refine va_get (D := D) (ci := 0) (v := .ref (d 0)) (C := RX0) (T := TX0) (N := 12) hx hb hts hiw hown hK hP 0 rfl rfl 0 (by decide) (hts (.fieldLink RX0 9 "TunedWrens" "rungOfWren" "[I") (by decide +kernel)) (fun _ h9 => h9) rfl dX0_singFrame_1 ?_
  refine lv_iload_n hx hb dX0_singFrame_4 rfl (lv_at hl 1 rfl) ?_
  refine va_iald hx hb hK hP 1 0 rfl rfl (zw_in hw) dX0_singFrame_5 ?_
  refine lv_istore_n (lv' := [(3, .int (z.1 w.toNatClampNeg)), (0, .ref h), (1, .int w), (2, .int p)]) hx hb dX0_singFrame_6 rfl hl (by decide) rfl (fun ls hl => ?_)
  refine lv_aload_n hx hb dX0_singFrame_7 rfl (lv_at hl 1 rfl) ?_
  refine lv_iload_n hx hb dX0_singFrame_8 rfl (lv_at hl 0 rfl) ?_
  refine lv_iload_n hx hb dX0_singFrame_9 rfl (lv_at hl 3 rfl) ?_
  refine vp_callSi ((va_runV (As := [.int (z.1 w.toNatClampNeg), .int p]) (rest := []) ⟨hx, hb, hml, hown, hts⟩ (c_X0_nextRung l D N0 cA cL E h d z c (z.1 w.toNatClampNeg) p hc hp) (cwV 2 hts gX0_singFrame_X0_nextRung rfl rfl rfl (by decide +kernel) ⟨Nat.le_of_ble_eq_true rfl, Nat.le_of_ble_eq_true rfl⟩) ⟨zPre.blind, va_recv hK hP (ci := 0) (q0 := 0) rfl rfl, zPre.call hN hP hD hK hE hS⟩ rfl rfl hl.1 rfl (lv_room (Nat.le_of_ble_eq_true rfl)) dX0_singFrame_10 ⟨Nat.zero_le _, Nat.zero_le _⟩).run) (fun r_10 h_10 => ?_)
  have h_10 : r_10 = (zNext c (z.1 w.toNatClampNeg) p) := h_10
  subst h_10
  rw [show ((zNext c (z.1 w.toNatClampNeg) p) : Int32) = (zR c w.toNatClampNeg p z) from rfl]
  refine lv_istore (lv' := [(4, .int (zR c w.toNatClampNeg p z)), (3, .int (z.1 w.toNatClampNeg)), (0, .ref h), (1, .int w), (2, .int p)]) hx hb dX0_singFrame_13 hl (by decide) rfl (fun ls hl => ?_)
  refine lv_aload_n hx hb dX0_singFrame_15 rfl (lv_at hl 2 rfl) ?_
  refine lv_iload_n hx hb dX0_singFrame_16 rfl (lv_at hl 3 rfl) ?_
  refine lv_iload hx hb dX0_singFrame_17 (lv_at hl 0 rfl) ?_
  refine lv_iload_n hx hb dX0_singFrame_19 rfl (lv_at hl 4 rfl) ?_
  refine vp_callSi ((va_runV (As := [.int w, .int (zR c w.toNatClampNeg p z), .int p]) (rest := []) ⟨hx, hb, hml, hown, hts⟩ (c_X0_nextNudge l D N0 cA cL E h d z c w (zR c w.toNatClampNeg p z) p hw) (cwV 3 hts gX0_singFrame_X0_nextNudge rfl rfl rfl (by decide +kernel) ⟨Nat.le_of_ble_eq_true rfl, Nat.le_of_ble_eq_true rfl⟩) ⟨zPre.blind, va_recv hK hP (ci := 0) (q0 := 0) rfl rfl, zPre.call hN hP hD hK hE hS⟩ rfl rfl hl.1 rfl (lv_room (Nat.le_of_ble_eq_true rfl)) dX0_singFrame_20 ⟨Nat.zero_le _, Nat.zero_le _⟩).run) (fun r_20 h_20 => ?_)
  have h_20 : r_20 = (zNud c (z.1 w.toNatClampNeg) (z.2.1 w.toNatClampNeg) (zR c w.toNatClampNeg p z) p) := h_20
  subst h_20
  rw [show ((zNud c (z.1 w.toNatClampNeg) (z.2.1 w.toNatClampNeg) (zR c w.toNatClampNeg p z) p) : Int32) = (zG c w.toNatClampNeg p z) from rfl]
  refine lv_istore (lv' := [(5, .int (zG c w.toNatClampNeg p z)), (4, .int (zR c w.toNatClampNeg p z)), (3, .int (z.1 w.toNatClampNeg)), (0, .ref h), (1, .int w), (2, .int p)]) hx hb dX0_singFrame_23 hl (by decide) rfl (fun ls hl => ?_)
  refine lv_iload_n hx hb dX0_singFrame_25 rfl (lv_at hl 5 rfl) ?_
  refine lv_iload hx hb dX0_singFrame_26 (lv_at hl 0 rfl) ?_
  refine lv_iadd hx hb dX0_singFrame_28 ?_
  rw [show ((p + (zG c w.toNatClampNeg p z)) : Int32) = (zOut c w.toNatClampNeg p z) from rfl]
  refine lv_istore (lv' := [(6, .int (zOut c w.toNatClampNeg p z)), (5, .int (zG c w.toNatClampNeg p z)), (4, .int (zR c w.toNatClampNeg p z)), (3, .int (z.1 w.toNatClampNeg)), (0, .ref h), (1, .int w), (2, .int p)]) hx hb dX0_singFrame_29 hl (by decide) rfl (fun ls hl => ?_)
  refine lv_aload_n hx hb dX0_singFrame_31 rfl (lv_at hl 4 rfl) ?_
  refine va_get (D := D) (ci := 0) (v := .ref (d 0)) (C := RX0) (T := TX0) (N := 12) hx hb hts hiw hown hK hP 0 rfl rfl 0 (by decide) (hts (.fieldLink RX0 9 "TunedWrens" "rungOfWren" "[I") (by decide +kernel)) (fun _ h9 => h9) rfl dX0_singFrame_32 ?_
  refine lv_iload_n hx hb dX0_singFrame_35 rfl (lv_at hl 5 rfl) ?_
  refine lv_iload hx hb dX0_singFrame_36 (lv_at hl 2 rfl) ?_
  refine va_iast hx hb hK hP hD hS 1 0 rfl rfl (zw_in hw) dX0_singFrame_38 (fun H locs hP hD hS => ?_)
  have hP : va_P D vwCl (wX h d cA ((upd z.1 w.toNatClampNeg (zR c w.toNatClampNeg p z)), z.2.1, z.2.2.1, z.2.2.2.1, z.2.2.2.2.1, z.2.2.2.2.2.1, z.2.2.2.2.2.2) c ++ E) H := hP
  have hD : va_D (zA N0) (wX h d cA ((upd z.1 w.toNatClampNeg (zR c w.toNatClampNeg p z)), z.2.1, z.2.2.1, z.2.2.2.1, z.2.2.2.2.1, z.2.2.2.2.2.1, z.2.2.2.2.2.2) c ++ E) := hD
  refine lv_aload_n hx hb dX0_singFrame_39 rfl (lv_at hl 4 rfl) ?_
  refine va_get (D := D) (ci := 0) (v := .ref (d 1)) (C := RX0) (T := TX0) (N := 12) hx hb hts hiw hown hK hP 0 rfl rfl 1 (by decide) (hts (.fieldLink RX0 13 "TunedWrens" "nudgeOfWren" "[I") (by decide +kernel)) (fun _ h9 => h9) rfl dX0_singFrame_40 ?_
  refine lv_iload_n hx hb dX0_singFrame_43 rfl (lv_at hl 5 rfl) ?_
  refine lv_iload hx hb dX0_singFrame_44 (lv_at hl 1 rfl) ?_
  refine va_iast hx hb hK hP hD hS 2 0 rfl rfl (zw_in hw) dX0_singFrame_46 (fun H locs hP hD hS => ?_)
  have hP : va_P D vwCl (wX h d cA ((upd z.1 w.toNatClampNeg (zR c w.toNatClampNeg p z)), (upd z.2.1 w.toNatClampNeg (zG c w.toNatClampNeg p z)), z.2.2.1, z.2.2.2.1, z.2.2.2.2.1, z.2.2.2.2.2.1, z.2.2.2.2.2.2) c ++ E) H := hP
  have hD : va_D (zA N0) (wX h d cA ((upd z.1 w.toNatClampNeg (zR c w.toNatClampNeg p z)), (upd z.2.1 w.toNatClampNeg (zG c w.toNatClampNeg p z)), z.2.2.1, z.2.2.2.1, z.2.2.2.2.1, z.2.2.2.2.2.1, z.2.2.2.2.2.2) c ++ E) := hD
  refine lv_aload_n hx hb dX0_singFrame_47 rfl (lv_at hl 4 rfl) ?_
  refine va_get (D := D) (ci := 0) (v := .ref (d 2)) (C := RX0) (T := TX0) (N := 12) hx hb hts hiw hown hK hP 0 rfl rfl 2 (by decide) (hts (.fieldLink RX0 16 "TunedWrens" "framesOfWren" "[I") (by decide +kernel)) (fun _ h9 => h9) rfl dX0_singFrame_48 ?_
  refine lv_iload_n hx hb dX0_singFrame_51 rfl (lv_at hl 5 rfl) ?_
  refine lv_dup2_11 hx hb dX0_singFrame_52 rfl rfl ?_
  refine va_iald hx hb hK hP 3 0 rfl rfl (zw_in hw) dX0_singFrame_53 ?_
  refine lv_iconst (v := 1) hx hb dX0_singFrame_54 (by decide) ?_
  refine lv_iadd hx hb dX0_singFrame_55 ?_
  refine va_iast hx hb hK hP hD hS 3 0 rfl rfl (zw_in hw) dX0_singFrame_56 (fun H locs hP hD hS => ?_)
  have hP : va_P D vwCl (wX h d cA ((upd z.1 w.toNatClampNeg (zR c w.toNatClampNeg p z)), (upd z.2.1 w.toNatClampNeg (zG c w.toNatClampNeg p z)), (upd z.2.2.1 w.toNatClampNeg ((z.2.2.1 w.toNatClampNeg) + 1)), z.2.2.2.1, z.2.2.2.2.1, z.2.2.2.2.2.1, z.2.2.2.2.2.2) c ++ E) H := hP
  have hD : va_D (zA N0) (wX h d cA ((upd z.1 w.toNatClampNeg (zR c w.toNatClampNeg p z)), (upd z.2.1 w.toNatClampNeg (zG c w.toNatClampNeg p z)), (upd z.2.2.1 w.toNatClampNeg ((z.2.2.1 w.toNatClampNeg) + 1)), z.2.2.2.1, z.2.2.2.2.1, z.2.2.2.2.2.1, z.2.2.2.2.2.2) c ++ E) := hD
  refine lv_iload_n hx hb dX0_singFrame_57 rfl (lv_at hl 3 rfl) ?_
  refine lv_iload hx hb dX0_singFrame_58 (lv_at hl 2 rfl) ?_
  refine vp_callSi ((va_runS (As := [.int (z.1 w.toNatClampNeg), .int (zR c w.toNatClampNeg p z)]) (rest := []) ⟨hx, hb, hml, hown, hts⟩ (c_X0_isChange l (z.1 w.toNatClampNeg) (zR c w.toNatClampNeg p z)) (va_cwS 2 hts gX0_singFrame_X0_isChange rfl rfl rfl (by decide +kernel) ⟨Nat.le_of_ble_eq_true rfl, Nat.le_of_ble_eq_true rfl⟩) ⟨zT.blind, zT.call⟩ rfl rfl hl.1 rfl (lv_room (Nat.le_of_ble_eq_true rfl)) dX0_singFrame_60 ⟨Nat.zero_le _, Nat.zero_le _⟩).run) (fun r_60 h_60 => ?_)
  have h_60 : r_60 = (zb (zChg (z.1 w.toNatClampNeg) (zR c w.toNatClampNeg p z))) := h_60
  subst h_60
  refine lv_if_eq (tgt := 76) hx hb dX0_singFrame_63 (by decide) (fun c_63 => ?_) (fun c_63 => ?_)
  · have hP : va_P D vwCl (wX h d cA ((upd z.1 w.toNatClampNeg (zR c w.toNatClampNeg p z)), (upd z.2.1 w.toNatClampNeg (zG c w.toNatClampNeg p z)), (upd z.2.2.1 w.toNatClampNeg ((z.2.2.1 w.toNatClampNeg) + 1)), (zB (zChg (z.1 w.toNatClampNeg) (zR c w.toNatClampNeg p z)) z.2.2.2.1 w.toNatClampNeg), z.2.2.2.2.1, z.2.2.2.2.2.1, z.2.2.2.2.2.2) c ++ E) H := by
      rw [show ((zB (zChg (z.1 w.toNatClampNeg) (zR c w.toNatClampNeg p z)) z.2.2.2.1 w.toNatClampNeg) : Nat → Int32) = z.2.2.2.1 from if_neg (zb_f c_63)]
      exact hP
    have hD : va_D (zA N0) (wX h d cA ((upd z.1 w.toNatClampNeg (zR c w.toNatClampNeg p z)), (upd z.2.1 w.toNatClampNeg (zG c w.toNatClampNeg p z)), (upd z.2.2.1 w.toNatClampNeg ((z.2.2.1 w.toNatClampNeg) + 1)), (zB (zChg (z.1 w.toNatClampNeg) (zR c w.toNatClampNeg p z)) z.2.2.2.1 w.toNatClampNeg), z.2.2.2.2.1, z.2.2.2.2.2.1, z.2.2.2.2.2.2) c ++ E) := by
      rw [show ((zB (zChg (z.1 w.toNatClampNeg) (zR c w.toNatClampNeg p z)) z.2.2.2.1 w.toNatClampNeg) : Nat → Int32) = z.2.2.2.1 from if_neg (zb_f c_63)]
      exact hD
    exact j76 _ _ hP hD hS ls (lv_sub hl [0, 1, 2, 3, 4, 5, 6] rfl)
  · refine lv_aload_n hx hb dX0_singFrame_66 rfl (lv_at hl 4 rfl) ?_
    refine va_get (D := D) (ci := 0) (v := .ref (d 3)) (C := RX0) (T := TX0) (N := 12) hx hb hts hiw hown hK hP 0 rfl rfl 3 (by decide) (hts (.fieldLink RX0 19 "TunedWrens" "changesOfWren" "[I") (by decide +kernel)) (fun _ h9 => h9) rfl dX0_singFrame_67 ?_
    refine lv_iload_n hx hb dX0_singFrame_70 rfl (lv_at hl 5 rfl) ?_
    refine lv_dup2_11 hx hb dX0_singFrame_71 rfl rfl ?_
    refine va_iald hx hb hK hP 4 0 rfl rfl (zw_in hw) dX0_singFrame_72 ?_
    refine lv_iconst (v := 1) hx hb dX0_singFrame_73 (by decide) ?_
    refine lv_iadd hx hb dX0_singFrame_74 ?_
    refine va_iast hx hb hK hP hD hS 4 0 rfl rfl (zw_in hw) dX0_singFrame_75 (fun H locs hP hD hS => ?_)
    have hP : va_P D vwCl (wX h d cA ((upd z.1 w.toNatClampNeg (zR c w.toNatClampNeg p z)), (upd z.2.1 w.toNatClampNeg (zG c w.toNatClampNeg p z)), (upd z.2.2.1 w.toNatClampNeg ((z.2.2.1 w.toNatClampNeg) + 1)), (upd z.2.2.2.1 w.toNatClampNeg ((z.2.2.2.1 w.toNatClampNeg) + 1)), z.2.2.2.2.1, z.2.2.2.2.2.1, z.2.2.2.2.2.2) c ++ E) H := hP
    have hD : va_D (zA N0) (wX h d cA ((upd z.1 w.toNatClampNeg (zR c w.toNatClampNeg p z)), (upd z.2.1 w.toNatClampNeg (zG c w.toNatClampNeg p z)), (upd z.2.2.1 w.toNatClampNeg ((z.2.2.1 w.toNatClampNeg) + 1)), (upd z.2.2.2.1 w.toNatClampNeg ((z.2.2.2.1 w.toNatClampNeg) + 1)), z.2.2.2.2.1, z.2.2.2.2.2.1, z.2.2.2.2.2.2) c ++ E) := hD
    have hP : va_P D vwCl (wX h d cA ((upd z.1 w.toNatClampNeg (zR c w.toNatClampNeg p z)), (upd z.2.1 w.toNatClampNeg (zG c w.toNatClampNeg p z)), (upd z.2.2.1 w.toNatClampNeg ((z.2.2.1 w.toNatClampNeg) + 1)), (zB (zChg (z.1 w.toNatClampNeg) (zR c w.toNatClampNeg p z)) z.2.2.2.1 w.toNatClampNeg), z.2.2.2.2.1, z.2.2.2.2.2.1, z.2.2.2.2.2.2) c ++ E) H := by
      rw [show ((zB (zChg (z.1 w.toNatClampNeg) (zR c w.toNatClampNeg p z)) z.2.2.2.1 w.toNatClampNeg) : Nat → Int32) = (upd z.2.2.2.1 w.toNatClampNeg ((z.2.2.2.1 w.toNatClampNeg) + 1)) from if_pos (zb_t c_63)]
      exact hP
    have hD : va_D (zA N0) (wX h d cA ((upd z.1 w.toNatClampNeg (zR c w.toNatClampNeg p z)), (upd z.2.1 w.toNatClampNeg (zG c w.toNatClampNeg p z)), (upd z.2.2.1 w.toNatClampNeg ((z.2.2.1 w.toNatClampNeg) + 1)), (zB (zChg (z.1 w.toNatClampNeg) (zR c w.toNatClampNeg p z)) z.2.2.2.1 w.toNatClampNeg), z.2.2.2.2.1, z.2.2.2.2.2.1, z.2.2.2.2.2.2) c ++ E) := by
      rw [show ((zB (zChg (z.1 w.toNatClampNeg) (zR c w.toNatClampNeg p z)) z.2.2.2.1 w.toNatClampNeg) : Nat → Int32) = (upd z.2.2.2.1 w.toNatClampNeg ((z.2.2.2.1 w.toNatClampNeg) + 1)) from if_pos (zb_t c_63)]
      exact hD
    exact j76 _ _ hP hD hS ls (lv_sub hl [0, 1, 2, 3, 4, 5, 6] rfl)

set_option maxHeartbeats 4000000 in
set_option maxRecDepth 100000 in
theorem c_X0_sing_v (l : Launch) (D : va_G) (N0 : Nat) (cA cL : ClassId) (E : va_W) (h : Nat) (d : Nat → Nat) (z : S7) (c : C5) (w : Int32) (p : Int32) (hc : okC c) (hw : zw w) (hp : zp p) : Met l yX0_sing wsX0_sing ({ frames := 7, cells := 0, slots := 0, locals := 161 }) (va_Pc [.ref h, .int w, .int p] (zPre D N0 cA cL (wX h d cA z c ++ E))) (va_Qi (fun (rv : Int32) (_ : Unit) => rv = zOut c w.toNatClampNeg p z) (fun _ t => zPost D N0 (wX h d cA (zSg c w.toNatClampNeg p z) c ++ E) t) (zA N0)) 0 0 (zA N0) := by
  refine Met.ofW (cc := cX0_sing) (maxL := 3) (ret := (some .int)) (by decide) rfl ?_
  intro pr e s m ag below meth cd s₁ B hml hv
  obtain ⟨rfl, hN, hP, hD, hK, hE⟩ := hv
  have hx := B.exec
  have hb := B.bytes
  have hr := B.returns
  have hts := atoms_spec (ws := wsX0_sing) B.pre
  have hown : s.vm.findClass RX0 = some m.cls := findClass_of_methodNamed B.named
  have hlocks := B.notSynchronized
  have hS : va_S (zA N0) s.heap s.heap [] := va_S.rf
  have hl := lv_entry ([.ref h, .int w, .int p]) (n := 3) (Nat.le_of_ble_eq_true rfl)
  rw [lg_entry_eq]
  generalize (lg_sl ([.ref h, .int w, .int p]) ++ List.replicate (3 - (lg_sl ([.ref h, .int w, .int p])).length) Slot.unset).toArray = ls at hl ⊢
  have hl : lv_has ls 3 [(0, .ref h), (1, .int w), (2, .int p)] := hl
  refine lv_iload_n hx hb dX0_sing_0 rfl (lv_at hl 1 rfl) ?_
  refine va_csv ((va_runS (As := [.int w]) (rest := []) ⟨hx, hb, hml, hown, hts⟩ (c_X0_requireWren_v l w hw) (va_cwS 1 hts gX0_sing_X0_requireWren rfl rfl rfl (by decide +kernel) ⟨Nat.le_of_ble_eq_true rfl, Nat.le_of_ble_eq_true rfl⟩) ⟨zT.blind, zT.call⟩ rfl rfl hl.1 rfl (lv_room (Nat.le_of_ble_eq_true rfl)) dX0_sing_1 ⟨Nat.zero_le _, Nat.zero_le _⟩).run) (fun _ => ?_)
  refine lv_iload_n hx hb dX0_sing_4 rfl (lv_at hl 2 rfl) ?_
  refine va_csv ((va_runS (As := [.int p]) (rest := []) ⟨hx, hb, hml, hown, hts⟩ (c_X0_requirePitch_v l p hp) (va_cwS 1 hts gX0_sing_X0_requirePitch rfl rfl rfl (by decide +kernel) ⟨Nat.le_of_ble_eq_true rfl, Nat.le_of_ble_eq_true rfl⟩) ⟨zT.blind, zT.call⟩ rfl rfl hl.1 rfl (lv_room (Nat.le_of_ble_eq_true rfl)) dX0_sing_5 ⟨Nat.zero_le _, Nat.zero_le _⟩).run) (fun _ => ?_)
  refine lv_aload_n hx hb dX0_sing_8 rfl (lv_at hl 0 rfl) ?_
  refine lv_iload_n hx hb dX0_sing_9 rfl (lv_at hl 1 rfl) ?_
  refine lv_iload_n hx hb dX0_sing_10 rfl (lv_at hl 2 rfl) ?_
  refine va_calli (va_runV (As := [.int w, .int p]) (rest := []) ⟨hx, hb, hml, hown, hts⟩ (c_X0_singFrame l D N0 cA cL E h d z c w p hc hw hp) (cwV 2 hts gX0_sing_X0_singFrame rfl rfl rfl (by decide +kernel) ⟨Nat.le_of_ble_eq_true rfl, Nat.le_of_ble_eq_true rfl⟩) ⟨zPre.blind, va_recv hK hP (ci := 0) (q0 := 0) rfl rfl, zPre.call hN hP hD hK hE hS⟩ rfl rfl hl.1 rfl (lv_room (Nat.le_of_ble_eq_true rfl)) dX0_sing_11 ⟨Nat.zero_le _, Nat.zero_le _⟩) hS (fun _ _ h9 => h9) (fun _ h9 => h9) (fun r_11 _ t H locs ht hvm h_11 hB hz1 hk1 hS => ?_)
  have h_11 : r_11 = (zOut c w.toNatClampNeg p z) := h_11
  subst h_11
  obtain ⟨hP, hD⟩ := hB
  rw [ht] at hP
  have hP : va_P D vwCl (wX h d cA (zSg c w.toNatClampNeg p z) c ++ E) H := hP
  have hD : va_D (zA N0) (wX h d cA (zSg c w.toNatClampNeg p z) c ++ E) := hD
  exact W.iret (v := (zOut c w.toNatClampNeg p z)) hx hb hr (fun t ht hW => ⟨⟨_, (), rfl, rfl, ⟨by rw [ht]; exact hP, hD⟩⟩, hS.F ht⟩) hS.2.2 dX0_sing_14

set_option maxHeartbeats 4000000 in
set_option maxRecDepth 100000 in
theorem c_X0_slide_v (l : Launch) (D : va_G) (N0 : Nat) (cA cL : ClassId) (E : va_W) (h : Nat) (d : Nat → Nat) (z : S7) (c : C5) (w a b : Int32) (f : Nat) (hc : okC c) (hw : zw w) (hpa : zp a) (hpb : zp b) (hf : 2 ≤ f) (hf2 : f ≤ 50) : Met l yX0_slide wsX0_slide ({ frames := 7, cells := 0, slots := 0, locals := 161 }) (va_Pc [.ref h, .int w, .int a, .int b, .int (nI f)] (zPre D N0 cA cL (wX h d cA z c ++ E))) (va_Qi (fun (rv : Int32) (_ : Unit) => rv = (zSl c w.toNatClampNeg a b f z f).2.2.2.1 w.toNatClampNeg - z.2.2.2.1 w.toNatClampNeg) (fun _ t => zPost D N0 (wX h d cA (zSl c w.toNatClampNeg a b f z f) c ++ E) t) (zA N0)) 0 0 (zA N0) := by
  refine Met.ofW (cc := cX0_slide) (maxL := 7) (ret := (some .int)) (by decide) rfl ?_
  intro pr e s m ag below meth cd s₁ B hml hv
  obtain ⟨rfl, hN, hP, hD, hK, hE⟩ := hv
  have hx := B.exec
  have hb := B.bytes
  have hr := B.returns
  have hts := atoms_spec (ws := wsX0_slide) B.pre
  have hown : s.vm.findClass RX0 = some m.cls := findClass_of_methodNamed B.named
  have hlocks := B.notSynchronized
  have hS : va_S (zA N0) s.heap s.heap [] := va_S.rf
  have hiw : ∀ w ∈ u_ws RX0 TX0 12, w ∈ wsX0_slide := by decide +kernel
  have hl := lv_entry ([.ref h, .int w, .int a, .int b, .int (nI f)]) (n := 7) (Nat.le_of_ble_eq_true rfl)
  rw [lg_entry_eq]
  generalize (lg_sl ([.ref h, .int w, .int a, .int b, .int (nI f)]) ++ List.replicate (7 - (lg_sl ([.ref h, .int w, .int a, .int b, .int (nI f)])).length) Slot.unset).toArray = ls at hl ⊢
  have hl : lv_has ls 7 [(0, .ref h), (1, .int w), (2, .int a), (3, .int b), (4, .int (nI f))] := hl
  have loop : ∀ (n : Nat) (k : Nat), k ≤ f → f + 1 ≤ k + n → ∀ (H : Heap) (locs : List Loc), va_P D vwCl (wX h d cA ((zSl c w.toNatClampNeg a b f z k)) c ++ E) H → va_D (zA N0) (wX h d cA ((zSl c w.toNatClampNeg a b f z k)) c ++ E) → va_S (zA N0) s.heap H locs → ∀ (ls : Array Slot), lv_has ls 7 [(6, .int (nI k)), (5, .int (z.2.2.2.1 w.toNatClampNeg)), (0, .ref h), (1, .int w), (2, .int a), (3, .int b), (4, .int (nI f))] → W pr l e (headSpec wsX0_slide ({ frames := 7, cells := 0, slots := 0, locals := 161 })).room s m ([.ref h, .int w, .int a, .int b, .int (nI f)] : List Value).toArray below meth cd H locs 0 0 (MQ below (va_Qi (fun (rv : Int32) (_ : Unit) => rv = (zSl c w.toNatClampNeg a b f z f).2.2.2.1 w.toNatClampNeg - z.2.2.2.1 w.toNatClampNeg) (fun _ t => zPost D N0 (wX h d cA (zSl c w.toNatClampNeg a b f z f) c ++ E) t) (zA N0)) ([.ref h, .int w, .int a, .int b, .int (nI f)] : List Value).toArray s 0 0 (zA N0)) (F0 m 31 ls []) := by
    intro n
    induction n with
    | zero =>
      intro k hk hn
      omega
    | succ n ih =>
      intro k hk hn H locs hP hD hS ls hl
      refine lv_iload hx hb dX0_slide_31 (lv_at hl 0 rfl) ?_
      refine lv_iload hx hb dX0_slide_33 (lv_at hl 6 rfl) ?_
      refine lv_icmp_ge (tgt := 65) hx hb dX0_slide_35 (by decide) (fun c_35 => ?_) (fun c_35 => ?_)
      · have hkf : f = k := by have := (nI_leI (by omega) (by omega)).mp c_35; omega
        subst hkf
        refine lv_aload_n hx hb dX0_slide_65 rfl (lv_at hl 2 rfl) ?_
        refine va_get (D := D) (ci := 0) (v := .ref (d 3)) (C := RX0) (T := TX0) (N := 12) hx hb hts hiw hown hK hP 0 rfl rfl 3 (by decide) (hts (.fieldLink RX0 19 "TunedWrens" "changesOfWren" "[I") (by decide +kernel)) (fun _ h9 => h9) rfl dX0_slide_66 ?_
        refine lv_iload_n hx hb dX0_slide_69 rfl (lv_at hl 3 rfl) ?_
        refine va_iald hx hb hK hP 4 0 rfl rfl (zw_in hw) dX0_slide_70 ?_
        refine lv_iload hx hb dX0_slide_71 (lv_at hl 1 rfl) ?_
        refine lv_isub hx hb dX0_slide_73 ?_
        exact W.iret (v := ((((zSl c w.toNatClampNeg a b f z f)).2.2.2.1 w.toNatClampNeg) - (z.2.2.2.1 w.toNatClampNeg))) hx hb hr (fun t ht hW => ⟨⟨_, (), rfl, rfl, ⟨by rw [ht]; exact hP, hD⟩⟩, hS.F ht⟩) hS.2.2 dX0_slide_74
      · have hkf : k < f := by
          rcases Nat.lt_or_ge k f with q | q
          · exact q
          · exact absurd ((nI_leI (by omega) (by omega)).mpr q) c_35
        refine lv_aload_n hx hb dX0_slide_38 rfl (lv_at hl 2 rfl) ?_
        refine lv_iload_n hx hb dX0_slide_39 rfl (lv_at hl 3 rfl) ?_
        refine lv_iload_n hx hb dX0_slide_40 rfl (lv_at hl 4 rfl) ?_
        refine lv_iload_n hx hb dX0_slide_41 rfl (lv_at hl 5 rfl) ?_
        refine lv_iload_n hx hb dX0_slide_42 rfl (lv_at hl 4 rfl) ?_
        refine lv_isub hx hb dX0_slide_43 ?_
        refine lv_iload hx hb dX0_slide_44 (lv_at hl 0 rfl) ?_
        refine lv_imul hx hb dX0_slide_46 ?_
        refine lv_iload hx hb dX0_slide_47 (lv_at hl 6 rfl) ?_
        refine lv_iconst (v := 1) hx hb dX0_slide_49 (by decide) ?_
        refine lv_isub hx hb dX0_slide_50 ?_
        rw [show (((nI f) - 1) : Int32) = (nI (f - 1)) from (pk_sub (b := 1) (by omega))]
        refine vp_callSi ((va_runS (As := [.int ((b - a) * (nI k)), .int (nI (f - 1))]) (rest := [.int a, .int w, .ref h]) ⟨hx, hb, hml, hown, hts⟩ (c_J9_floorDiv_7cf53 l ((b - a) * (nI k)) (f - 1) (by omega) (by omega)) (va_cwS 2 hts gX0_slide_J9_floorDiv_7cf53 rfl rfl rfl (by decide +kernel) ⟨Nat.le_of_ble_eq_true rfl, Nat.le_of_ble_eq_true rfl⟩) ⟨zT.blind, zT.call⟩ rfl rfl hl.1 rfl (lv_room (Nat.le_of_ble_eq_true rfl)) dX0_slide_51 ⟨Nat.zero_le _, Nat.zero_le _⟩).run) (fun r_51 h_51 => ?_)
        have h_51 : r_51 = (zFD ((b - a) * (nI k)) (f - 1)) := h_51
        subst h_51
        refine lv_iadd hx hb dX0_slide_54 ?_
        rw [show ((a + (zFD ((b - a) * (nI k)) (f - 1))) : Int32) = (zPit a b f k) from (zPit_X hpa hpb hf hf2 hkf)]
        refine va_calli (va_runV (As := [.int w, .int (zPit a b f k)]) (rest := []) ⟨hx, hb, hml, hown, hts⟩ (c_X0_singFrame l D N0 cA cL E h d ((zSl c w.toNatClampNeg a b f z k)) c w (zPit a b f k) hc hw (zPit_ok hpa hpb hf hf2 hkf)) (cwV 2 hts gX0_slide_X0_singFrame rfl rfl rfl (by decide +kernel) ⟨Nat.le_of_ble_eq_true rfl, Nat.le_of_ble_eq_true rfl⟩) ⟨zPre.blind, va_recv hK hP (ci := 0) (q0 := 0) rfl rfl, zPre.call hN hP hD hK hE hS⟩ rfl rfl hl.1 rfl (lv_room (Nat.le_of_ble_eq_true rfl)) dX0_slide_55 ⟨Nat.zero_le _, Nat.zero_le _⟩) hS (fun _ _ h9 => h9) (fun _ h9 => h9) (fun r_55 _ t H locs ht hvm h_55 hB hz1 hk1 hS => ?_)
        have h_55 : r_55 = (zOut c w.toNatClampNeg (zPit a b f k) ((zSl c w.toNatClampNeg a b f z k))) := h_55
        subst h_55
        obtain ⟨hP, hD⟩ := hB
        rw [ht] at hP
        have hP : va_P D vwCl (wX h d cA (zSg c w.toNatClampNeg (zPit a b f k) ((zSl c w.toNatClampNeg a b f z k))) c ++ E) H := hP
        have hD : va_D (zA N0) (wX h d cA (zSg c w.toNatClampNeg (zPit a b f k) ((zSl c w.toNatClampNeg a b f z k))) c ++ E) := hD
        refine lv_pop hx hb dX0_slide_58 rfl ?_
        refine lv_iinc (v := (nI (k + 1))) (lv' := [(6, .int (nI (k + 1))), (5, .int (z.2.2.2.1 w.toNatClampNeg)), (0, .ref h), (1, .int w), (2, .int a), (3, .int b), (4, .int (nI f))]) hx hb dX0_slide_59 hl (k := 0) rfl (z_inc k 1) (by decide) rfl (fun ls hl => ?_)
        refine lv_goto (tgt := 31) hx hb dX0_slide_62 (by decide) ?_
        exact ih (k + 1) (by omega) (by omega) _ _ hP hD hS ls (lv_sub hl [0, 1, 2, 3, 4, 5, 6] rfl)
  refine lv_iload_n hx hb dX0_slide_0 rfl (lv_at hl 1 rfl) ?_
  refine va_csv ((va_runS (As := [.int w]) (rest := []) ⟨hx, hb, hml, hown, hts⟩ (c_X0_requireWren_v l w hw) (va_cwS 1 hts gX0_slide_X0_requireWren rfl rfl rfl (by decide +kernel) ⟨Nat.le_of_ble_eq_true rfl, Nat.le_of_ble_eq_true rfl⟩) ⟨zT.blind, zT.call⟩ rfl rfl hl.1 rfl (lv_room (Nat.le_of_ble_eq_true rfl)) dX0_slide_1 ⟨Nat.zero_le _, Nat.zero_le _⟩).run) (fun _ => ?_)
  refine lv_iload_n hx hb dX0_slide_4 rfl (lv_at hl 2 rfl) ?_
  refine va_csv ((va_runS (As := [.int a]) (rest := []) ⟨hx, hb, hml, hown, hts⟩ (c_X0_requirePitch_v l a hpa) (va_cwS 1 hts gX0_slide_X0_requirePitch rfl rfl rfl (by decide +kernel) ⟨Nat.le_of_ble_eq_true rfl, Nat.le_of_ble_eq_true rfl⟩) ⟨zT.blind, zT.call⟩ rfl rfl hl.1 rfl (lv_room (Nat.le_of_ble_eq_true rfl)) dX0_slide_5 ⟨Nat.zero_le _, Nat.zero_le _⟩).run) (fun _ => ?_)
  refine lv_iload_n hx hb dX0_slide_8 rfl (lv_at hl 3 rfl) ?_
  refine va_csv ((va_runS (As := [.int b]) (rest := []) ⟨hx, hb, hml, hown, hts⟩ (c_X0_requirePitch_v l b hpb) (va_cwS 1 hts gX0_slide_X0_requirePitch rfl rfl rfl (by decide +kernel) ⟨Nat.le_of_ble_eq_true rfl, Nat.le_of_ble_eq_true rfl⟩) ⟨zT.blind, zT.call⟩ rfl rfl hl.1 rfl (lv_room (Nat.le_of_ble_eq_true rfl)) dX0_slide_9 ⟨Nat.zero_le _, Nat.zero_le _⟩).run) (fun _ => ?_)
  refine lv_iload hx hb dX0_slide_12 (lv_at hl 4 rfl) ?_
  refine lv_iconst (v := 2) hx hb dX0_slide_14 (by decide) ?_
  refine lv_bipush (v := 50) hx hb dX0_slide_15 (by decide) ?_
  refine va_csv ((va_runS (As := [.int (nI f), .int 2, .int 50]) (rest := []) ⟨hx, hb, hml, hown, hts⟩ (c_X0_requireRange_v l (nI f) 2 50 ⟨(nI_leI (a := 2) (by decide) (by omega)).mpr hf, (nI_leI (b := 50) (by omega) (by decide)).mpr hf2⟩) (va_cwS 3 hts gX0_slide_X0_requireRange rfl rfl rfl (by decide +kernel) ⟨Nat.le_of_ble_eq_true rfl, Nat.le_of_ble_eq_true rfl⟩) ⟨zT.blind, zT.call⟩ rfl rfl hl.1 rfl (lv_room (Nat.le_of_ble_eq_true rfl)) dX0_slide_17 ⟨Nat.zero_le _, Nat.zero_le _⟩).run) (fun _ => ?_)
  refine lv_aload_n hx hb dX0_slide_20 rfl (lv_at hl 0 rfl) ?_
  refine va_get (D := D) (ci := 0) (v := .ref (d 3)) (C := RX0) (T := TX0) (N := 12) hx hb hts hiw hown hK hP 0 rfl rfl 3 (by decide) (hts (.fieldLink RX0 19 "TunedWrens" "changesOfWren" "[I") (by decide +kernel)) (fun _ h9 => h9) rfl dX0_slide_21 ?_
  refine lv_iload_n hx hb dX0_slide_24 rfl (lv_at hl 1 rfl) ?_
  refine va_iald hx hb hK hP 4 0 rfl rfl (zw_in hw) dX0_slide_25 ?_
  refine lv_istore (lv' := [(5, .int (z.2.2.2.1 w.toNatClampNeg)), (0, .ref h), (1, .int w), (2, .int a), (3, .int b), (4, .int (nI f))]) hx hb dX0_slide_26 hl (by decide) rfl (fun ls hl => ?_)
  refine lv_iconst (v := 0) hx hb dX0_slide_28 (by decide) ?_
  refine lv_istore (lv' := [(6, .int 0), (5, .int (z.2.2.2.1 w.toNatClampNeg)), (0, .ref h), (1, .int w), (2, .int a), (3, .int b), (4, .int (nI f))]) hx hb dX0_slide_29 hl (by decide) rfl (fun ls hl => ?_)
  exact loop (f + 1) 0 (Nat.zero_le _) (by omega) _ _ hP hD hS ls (lv_sub hl [0, 1, 2, 3, 4, 5, 6] rfl)

set_option maxHeartbeats 4000000 in
set_option maxRecDepth 100000 in
theorem c_X0_rest_v (l : Launch) (D : va_G) (N0 : Nat) (cA cL : ClassId) (E : va_W) (h : Nat) (d : Nat → Nat) (z : S7) (c : C5) (w : Int32) (hw : zw w) : Met l yX0_rest wsX0_rest ({ frames := 1, cells := 0, slots := 0, locals := 20 }) (va_Pc [.ref h, .int w] (zPre D N0 cA cL (wX h d cA z c ++ E))) (va_Qi (fun (rv : Int32) (_ : Unit) => rv = z.1 w.toNatClampNeg) (fun _ t => zPost D N0 (wX h d cA ((upd z.1 w.toNatClampNeg (-1)), (upd z.2.1 w.toNatClampNeg 0), z.2.2.1, z.2.2.2.1, z.2.2.2.2.1, z.2.2.2.2.2.1, z.2.2.2.2.2.2) c ++ E) t) (zA N0)) 0 0 (zA N0) := by
  refine Met.ofW (cc := cX0_rest) (maxL := 3) (ret := (some .int)) (by decide) rfl ?_
  intro pr e s m ag below meth cd s₁ B hml hv
  obtain ⟨rfl, hN, hP, hD, hK, hE⟩ := hv
  have hx := B.exec
  have hb := B.bytes
  have hr := B.returns
  have hts := atoms_spec (ws := wsX0_rest) B.pre
  have hown : s.vm.findClass RX0 = some m.cls := findClass_of_methodNamed B.named
  have hlocks := B.notSynchronized
  have hS : va_S (zA N0) s.heap s.heap [] := va_S.rf
  have hiw : ∀ w ∈ u_ws RX0 TX0 12, w ∈ wsX0_rest := by decide +kernel
  have hl := lv_entry ([.ref h, .int w]) (n := 3) (Nat.le_of_ble_eq_true rfl)
  rw [lg_entry_eq]
  generalize (lg_sl ([.ref h, .int w]) ++ List.replicate (3 - (lg_sl ([.ref h, .int w])).length) Slot.unset).toArray = ls at hl ⊢
  have hl : lv_has ls 3 [(0, .ref h), (1, .int w)] := hl
  refine lv_iload_n hx hb dX0_rest_0 rfl (lv_at hl 1 rfl) ?_
  refine va_csv ((va_runS (As := [.int w]) (rest := []) ⟨hx, hb, hml, hown, hts⟩ (c_X0_requireWren_v l w hw) (va_cwS 1 hts gX0_rest_X0_requireWren rfl rfl rfl (by decide +kernel) ⟨Nat.le_of_ble_eq_true rfl, Nat.le_of_ble_eq_true rfl⟩) ⟨zT.blind, zT.call⟩ rfl rfl hl.1 rfl (lv_room (Nat.le_of_ble_eq_true rfl)) dX0_rest_1 ⟨Nat.zero_le _, Nat.zero_le _⟩).run) (fun _ => ?_)
  refine lv_aload_n hx hb dX0_rest_4 rfl (lv_at hl 0 rfl) ?_
  refine va_get (D := D) (ci := 0) (v := .ref (d 0)) (C := RX0) (T := TX0) (N := 12) hx hb hts hiw hown hK hP 0 rfl rfl 0 (by decide) (hts (.fieldLink RX0 9 "TunedWrens" "rungOfWren" "[I") (by decide +kernel)) (fun _ h9 => h9) rfl dX0_rest_5 ?_
  refine lv_iload_n hx hb dX0_rest_8 rfl (lv_at hl 1 rfl) ?_
  refine va_iald hx hb hK hP 1 0 rfl rfl (zw_in hw) dX0_rest_9 ?_
  refine lv_istore_n (lv' := [(2, .int (z.1 w.toNatClampNeg)), (0, .ref h), (1, .int w)]) hx hb dX0_rest_10 rfl hl (by decide) rfl (fun ls hl => ?_)
  refine lv_aload_n hx hb dX0_rest_11 rfl (lv_at hl 1 rfl) ?_
  refine va_get (D := D) (ci := 0) (v := .ref (d 0)) (C := RX0) (T := TX0) (N := 12) hx hb hts hiw hown hK hP 0 rfl rfl 0 (by decide) (hts (.fieldLink RX0 9 "TunedWrens" "rungOfWren" "[I") (by decide +kernel)) (fun _ h9 => h9) rfl dX0_rest_12 ?_
  refine lv_iload_n hx hb dX0_rest_15 rfl (lv_at hl 2 rfl) ?_
  refine lv_iconst (v := (-1)) hx hb dX0_rest_16 (by decide) ?_
  refine va_iast hx hb hK hP hD hS 1 0 rfl rfl (zw_in hw) dX0_rest_17 (fun H locs hP hD hS => ?_)
  have hP : va_P D vwCl (wX h d cA ((upd z.1 w.toNatClampNeg (-1)), z.2.1, z.2.2.1, z.2.2.2.1, z.2.2.2.2.1, z.2.2.2.2.2.1, z.2.2.2.2.2.2) c ++ E) H := hP
  have hD : va_D (zA N0) (wX h d cA ((upd z.1 w.toNatClampNeg (-1)), z.2.1, z.2.2.1, z.2.2.2.1, z.2.2.2.2.1, z.2.2.2.2.2.1, z.2.2.2.2.2.2) c ++ E) := hD
  refine lv_aload_n hx hb dX0_rest_18 rfl (lv_at hl 1 rfl) ?_
  refine va_get (D := D) (ci := 0) (v := .ref (d 1)) (C := RX0) (T := TX0) (N := 12) hx hb hts hiw hown hK hP 0 rfl rfl 1 (by decide) (hts (.fieldLink RX0 13 "TunedWrens" "nudgeOfWren" "[I") (by decide +kernel)) (fun _ h9 => h9) rfl dX0_rest_19 ?_
  refine lv_iload_n hx hb dX0_rest_22 rfl (lv_at hl 2 rfl) ?_
  refine lv_iconst (v := 0) hx hb dX0_rest_23 (by decide) ?_
  refine va_iast hx hb hK hP hD hS 2 0 rfl rfl (zw_in hw) dX0_rest_24 (fun H locs hP hD hS => ?_)
  have hP : va_P D vwCl (wX h d cA ((upd z.1 w.toNatClampNeg (-1)), (upd z.2.1 w.toNatClampNeg 0), z.2.2.1, z.2.2.2.1, z.2.2.2.2.1, z.2.2.2.2.2.1, z.2.2.2.2.2.2) c ++ E) H := hP
  have hD : va_D (zA N0) (wX h d cA ((upd z.1 w.toNatClampNeg (-1)), (upd z.2.1 w.toNatClampNeg 0), z.2.2.1, z.2.2.2.1, z.2.2.2.2.1, z.2.2.2.2.2.1, z.2.2.2.2.2.2) c ++ E) := hD
  refine lv_iload_n hx hb dX0_rest_25 rfl (lv_at hl 0 rfl) ?_
  exact W.iret (v := (z.1 w.toNatClampNeg)) hx hb hr (fun t ht hW => ⟨⟨_, (), rfl, rfl, ⟨by rw [ht]; exact hP, hD⟩⟩, hS.F ht⟩) hS.2.2 dX0_rest_26

set_option maxHeartbeats 4000000 in
set_option maxRecDepth 100000 in
theorem c_X0_setScale_v (l : Launch) (D : va_G) (N0 : Nat) (cA cL : ClassId) (E : va_W) (h : Nat) (d : Nat → Nat) (z : S7) (c : C5) (k2 m2 : Nat) (hc : okC c) (hk2 : k2 < 12) (hm2 : m2 < 8) : Met l yX0_setScale wsX0_setScale ({ frames := 4, cells := 0, slots := 0, locals := 89 }) (va_Pc [.ref h, .int (nI k2), .int (nI m2)] (zPre D N0 cA cL (wX h d cA z c ++ E))) (va_Qi (fun (rv : Int32) (_ : Unit) => rv = (zL (k2, m2, c.2.2.1, c.2.2.2.1, c.2.2.2.2) z.1).2) (fun _ t => zPost D N0 (wX h d cA ((zL (k2, m2, c.2.2.1, c.2.2.2.1, c.2.2.2.2) z.1).1, z.2.1, z.2.2.1, z.2.2.2.1, z.2.2.2.2.1, z.2.2.2.2.2.1, z.2.2.2.2.2.2) (k2, m2, c.2.2.1, c.2.2.2.1, c.2.2.2.2) ++ E) t) (zA N0)) 0 0 (zA N0) := by
  refine Met.ofW (cc := cX0_setScale) (maxL := 5) (ret := (some .int)) (by decide) rfl ?_
  intro pr e s m ag below meth cd s₁ B hml hv
  obtain ⟨rfl, hN, hP, hD, hK, hE⟩ := hv
  have hx := B.exec
  have hb := B.bytes
  have hr := B.returns
  have hts := atoms_spec (ws := wsX0_setScale) B.pre
  have hown : s.vm.findClass RX0 = some m.cls := findClass_of_methodNamed B.named
  have hlocks := B.notSynchronized
  have hS : va_S (zA N0) s.heap s.heap [] := va_S.rf
  have hiw : ∀ w ∈ u_ws RX0 TX0 12, w ∈ wsX0_setScale := by decide +kernel
  have hl := lv_entry ([.ref h, .int (nI k2), .int (nI m2)]) (n := 5) (Nat.le_of_ble_eq_true rfl)
  rw [lg_entry_eq]
  generalize (lg_sl ([.ref h, .int (nI k2), .int (nI m2)]) ++ List.replicate (5 - (lg_sl ([.ref h, .int (nI k2), .int (nI m2)])).length) Slot.unset).toArray = ls at hl ⊢
  have hl : lv_has ls 5 [(0, .ref h), (1, .int (nI k2)), (2, .int (nI m2))] := hl
  have hc2 : okC (k2, m2, c.2.2.1, c.2.2.2.1, c.2.2.2.2) := ⟨hk2, hm2, hc.2.2⟩
  have loop : ∀ (n : Nat) (k : Nat), k ≤ 4 → 5 ≤ k + n → ∀ (H : Heap) (locs : List Loc), va_P D vwCl (wX h d cA ((zLn (k2, m2, c.2.2.1, c.2.2.2.1, c.2.2.2.2) z.1 k).1, z.2.1, z.2.2.1, z.2.2.2.1, z.2.2.2.2.1, z.2.2.2.2.2.1, z.2.2.2.2.2.2) (k2, m2, c.2.2.1, c.2.2.2.1, c.2.2.2.2) ++ E) H → va_D (zA N0) (wX h d cA ((zLn (k2, m2, c.2.2.1, c.2.2.2.1, c.2.2.2.2) z.1 k).1, z.2.1, z.2.2.1, z.2.2.2.1, z.2.2.2.2.1, z.2.2.2.2.2.1, z.2.2.2.2.2.2) (k2, m2, c.2.2.1, c.2.2.2.1, c.2.2.2.2) ++ E) → va_S (zA N0) s.heap H locs → ∀ (ls : Array Slot), lv_has ls 5 [(4, .int (nI k)), (3, .int ((zLn (k2, m2, c.2.2.1, c.2.2.2.1, c.2.2.2.2) z.1 k).2)), (0, .ref h), (1, .int (nI k2)), (2, .int (nI m2))] → W pr l e (headSpec wsX0_setScale ({ frames := 4, cells := 0, slots := 0, locals := 89 })).room s m ([.ref h, .int (nI k2), .int (nI m2)] : List Value).toArray below meth cd H locs 0 0 (MQ below (va_Qi (fun (rv : Int32) (_ : Unit) => rv = (zL (k2, m2, c.2.2.1, c.2.2.2.1, c.2.2.2.2) z.1).2) (fun _ t => zPost D N0 (wX h d cA ((zL (k2, m2, c.2.2.1, c.2.2.2.1, c.2.2.2.2) z.1).1, z.2.1, z.2.2.1, z.2.2.2.1, z.2.2.2.2.1, z.2.2.2.2.2.1, z.2.2.2.2.2.2) (k2, m2, c.2.2.1, c.2.2.2.1, c.2.2.2.2) ++ E) t) (zA N0)) ([.ref h, .int (nI k2), .int (nI m2)] : List Value).toArray s 0 0 (zA N0)) (F0 m 29 ls []) := by
    intro n
    induction n with
    | zero =>
      intro k hk hn
      omega
    | succ n ih =>
      intro k hk hn H locs hP hD hS ls hl
      refine lv_iload hx hb dX0_setScale_29 (lv_at hl 0 rfl) ?_
      refine lv_iconst (v := 4) hx hb dX0_setScale_31 (by decide) ?_
      refine lv_icmp_ge (tgt := 77) hx hb dX0_setScale_32 (by decide) (fun c_32 => ?_) (fun c_32 => ?_)
      · have hk4 : k = 4 := by have := (nI_leI (a := 4) (by decide) (by omega)).mp c_32; omega
        subst hk4
        refine lv_iload_n hx hb dX0_setScale_77 rfl (lv_at hl 1 rfl) ?_
        exact W.iret (v := (zLn (k2, m2, c.2.2.1, c.2.2.2.1, c.2.2.2.2) z.1 4).2) hx hb hr (fun t ht hW => ⟨⟨_, (), rfl, rfl, ⟨by rw [ht]; exact hP, hD⟩⟩, hS.F ht⟩) hS.2.2 dX0_setScale_78
      · have hk4 : k < 4 := by
          rcases Nat.lt_or_ge k 4 with q | q
          · exact q
          · exact absurd ((nI_leI (a := 4) (by decide) (by omega)).mpr q) c_32
        refine lv_aload_n hx hb dX0_setScale_35 rfl (lv_at hl 2 rfl) ?_
        refine va_get (D := D) (ci := 0) (v := .ref (d 0)) (C := RX0) (T := TX0) (N := 12) hx hb hts hiw hown hK hP 0 rfl rfl 0 (by decide) (hts (.fieldLink RX0 9 "TunedWrens" "rungOfWren" "[I") (by decide +kernel)) (fun _ h9 => h9) rfl dX0_setScale_36 ?_
        refine lv_iload hx hb dX0_setScale_39 (lv_at hl 0 rfl) ?_
        refine va_iald hx hb hK hP 1 0 rfl rfl (vp_in_nI hk4 (by decide)) dX0_setScale_41 ?_
        rw [show (((zLn (k2, m2, c.2.2.1, c.2.2.2.1, c.2.2.2.2) z.1 k).1 (nI k).toNatClampNeg) : Int32) = ((zLn (k2, m2, c.2.2.1, c.2.2.2.1, c.2.2.2.2) z.1 k).1 k) from (by rw [nI_clamp (by omega)])]
        refine lv_iconst (v := (-1)) hx hb dX0_setScale_42 (by decide) ?_
        refine lv_icmp_eq (tgt := 71) hx hb dX0_setScale_43 (by decide) (fun c_43 => ?_) (fun c_43 => ?_)
        · refine lv_iinc (v := (nI (k + 1))) (lv' := [(4, .int (nI (k + 1))), (3, .int ((zLn (k2, m2, c.2.2.1, c.2.2.2.1, c.2.2.2.2) z.1 k).2)), (0, .ref h), (1, .int (nI k2)), (2, .int (nI m2))]) hx hb dX0_setScale_71 hl (k := 0) rfl (z_inc k 1) (by decide) rfl (fun ls hl => ?_)
          refine lv_goto (tgt := 29) hx hb dX0_setScale_74 (by decide) ?_
          have hl : lv_has ls 5 [(4, .int (nI (k + 1))), (3, .int ((zLn (k2, m2, c.2.2.1, c.2.2.2.1, c.2.2.2.2) z.1 (k + 1)).2)), (0, .ref h), (1, .int (nI k2)), (2, .int (nI m2))] := by
            rw [show ((zLn (k2, m2, c.2.2.1, c.2.2.2.1, c.2.2.2.2) z.1 (k + 1)).2 : Int32) = (zLn (k2, m2, c.2.2.1, c.2.2.2.1, c.2.2.2.2) z.1 k).2 from (by rw [zLn_0 (fun q => q.1 c_43)])]
            exact hl
          have hP : va_P D vwCl (wX h d cA ((zLn (k2, m2, c.2.2.1, c.2.2.2.1, c.2.2.2.2) z.1 (k + 1)).1, z.2.1, z.2.2.1, z.2.2.2.1, z.2.2.2.2.1, z.2.2.2.2.2.1, z.2.2.2.2.2.2) (k2, m2, c.2.2.1, c.2.2.2.1, c.2.2.2.2) ++ E) H := by
            rw [show ((zLn (k2, m2, c.2.2.1, c.2.2.2.1, c.2.2.2.2) z.1 (k + 1)).1 : Nat → Int32) = (zLn (k2, m2, c.2.2.1, c.2.2.2.1, c.2.2.2.2) z.1 k).1 from (by rw [zLn_0 (fun q => q.1 c_43)])]
            exact hP
          have hD : va_D (zA N0) (wX h d cA ((zLn (k2, m2, c.2.2.1, c.2.2.2.1, c.2.2.2.2) z.1 (k + 1)).1, z.2.1, z.2.2.1, z.2.2.2.1, z.2.2.2.2.1, z.2.2.2.2.2.1, z.2.2.2.2.2.2) (k2, m2, c.2.2.1, c.2.2.2.1, c.2.2.2.2) ++ E) := by
            rw [show ((zLn (k2, m2, c.2.2.1, c.2.2.2.1, c.2.2.2.2) z.1 (k + 1)).1 : Nat → Int32) = (zLn (k2, m2, c.2.2.1, c.2.2.2.1, c.2.2.2.2) z.1 k).1 from (by rw [zLn_0 (fun q => q.1 c_43)])]
            exact hD
          exact ih (k + 1) (by omega) (by omega) _ _ hP hD hS ls (lv_sub hl [0, 1, 2, 3, 4] rfl)
        · refine lv_aload_n hx hb dX0_setScale_46 rfl (lv_at hl 2 rfl) ?_
          refine lv_aload_n hx hb dX0_setScale_47 rfl (lv_at hl 2 rfl) ?_
          refine va_get (D := D) (ci := 0) (v := .ref (d 0)) (C := RX0) (T := TX0) (N := 12) hx hb hts hiw hown hK hP 0 rfl rfl 0 (by decide) (hts (.fieldLink RX0 9 "TunedWrens" "rungOfWren" "[I") (by decide +kernel)) (fun _ h9 => h9) rfl dX0_setScale_48 ?_
          refine lv_iload hx hb dX0_setScale_51 (lv_at hl 0 rfl) ?_
          refine va_iald hx hb hK hP 1 0 rfl rfl (vp_in_nI hk4 (by decide)) dX0_setScale_53 ?_
          rw [show (((zLn (k2, m2, c.2.2.1, c.2.2.2.1, c.2.2.2.2) z.1 k).1 (nI k).toNatClampNeg) : Int32) = ((zLn (k2, m2, c.2.2.1, c.2.2.2.1, c.2.2.2.2) z.1 k).1 k) from (by rw [nI_clamp (by omega)])]
          refine vp_callSi ((va_runV (As := [.int ((zLn (k2, m2, c.2.2.1, c.2.2.2.1, c.2.2.2.2) z.1 k).1 k)]) (rest := []) ⟨hx, hb, hml, hown, hts⟩ (c_X0_isRung l D N0 cA cL E h d ((zLn (k2, m2, c.2.2.1, c.2.2.2.1, c.2.2.2.2) z.1 k).1, z.2.1, z.2.2.1, z.2.2.2.1, z.2.2.2.2.1, z.2.2.2.2.2.1, z.2.2.2.2.2.2) (k2, m2, c.2.2.1, c.2.2.2.1, c.2.2.2.2) ((zLn (k2, m2, c.2.2.1, c.2.2.2.1, c.2.2.2.2) z.1 k).1 k) hc2) (cwV 1 hts gX0_setScale_X0_isRung rfl rfl rfl (by decide +kernel) ⟨Nat.le_of_ble_eq_true rfl, Nat.le_of_ble_eq_true rfl⟩) ⟨zPre.blind, va_recv hK hP (ci := 0) (q0 := 0) rfl rfl, zPre.call hN hP hD hK hE hS⟩ rfl rfl hl.1 rfl (lv_room (Nat.le_of_ble_eq_true rfl)) dX0_setScale_54 ⟨Nat.zero_le _, Nat.zero_le _⟩).run) (fun r_54 h_54 => ?_)
          have h_54 : r_54 = (zb (¬ zStep (k2, m2, c.2.2.1, c.2.2.2.1, c.2.2.2.2) ((zLn (k2, m2, c.2.2.1, c.2.2.2.1, c.2.2.2.2) z.1 k).1 k) = -1)) := h_54
          subst h_54
          refine lv_if_ne (tgt := 71) hx hb dX0_setScale_57 (by decide) (fun c_57 => ?_) (fun c_57 => ?_)
          · refine lv_iinc (v := (nI (k + 1))) (lv' := [(4, .int (nI (k + 1))), (3, .int ((zLn (k2, m2, c.2.2.1, c.2.2.2.1, c.2.2.2.2) z.1 k).2)), (0, .ref h), (1, .int (nI k2)), (2, .int (nI m2))]) hx hb dX0_setScale_71 hl (k := 0) rfl (z_inc k 1) (by decide) rfl (fun ls hl => ?_)
            refine lv_goto (tgt := 29) hx hb dX0_setScale_74 (by decide) ?_
            have hl : lv_has ls 5 [(4, .int (nI (k + 1))), (3, .int ((zLn (k2, m2, c.2.2.1, c.2.2.2.1, c.2.2.2.2) z.1 (k + 1)).2)), (0, .ref h), (1, .int (nI k2)), (2, .int (nI m2))] := by
              rw [show ((zLn (k2, m2, c.2.2.1, c.2.2.2.1, c.2.2.2.2) z.1 (k + 1)).2 : Int32) = (zLn (k2, m2, c.2.2.1, c.2.2.2.1, c.2.2.2.2) z.1 k).2 from (by rw [zLn_0 (fun q => zb_t c_57 q.2)])]
              exact hl
            have hP : va_P D vwCl (wX h d cA ((zLn (k2, m2, c.2.2.1, c.2.2.2.1, c.2.2.2.2) z.1 (k + 1)).1, z.2.1, z.2.2.1, z.2.2.2.1, z.2.2.2.2.1, z.2.2.2.2.2.1, z.2.2.2.2.2.2) (k2, m2, c.2.2.1, c.2.2.2.1, c.2.2.2.2) ++ E) H := by
              rw [show ((zLn (k2, m2, c.2.2.1, c.2.2.2.1, c.2.2.2.2) z.1 (k + 1)).1 : Nat → Int32) = (zLn (k2, m2, c.2.2.1, c.2.2.2.1, c.2.2.2.2) z.1 k).1 from (by rw [zLn_0 (fun q => zb_t c_57 q.2)])]
              exact hP
            have hD : va_D (zA N0) (wX h d cA ((zLn (k2, m2, c.2.2.1, c.2.2.2.1, c.2.2.2.2) z.1 (k + 1)).1, z.2.1, z.2.2.1, z.2.2.2.1, z.2.2.2.2.1, z.2.2.2.2.2.1, z.2.2.2.2.2.2) (k2, m2, c.2.2.1, c.2.2.2.1, c.2.2.2.2) ++ E) := by
              rw [show ((zLn (k2, m2, c.2.2.1, c.2.2.2.1, c.2.2.2.2) z.1 (k + 1)).1 : Nat → Int32) = (zLn (k2, m2, c.2.2.1, c.2.2.2.1, c.2.2.2.2) z.1 k).1 from (by rw [zLn_0 (fun q => zb_t c_57 q.2)])]
              exact hD
            exact ih (k + 1) (by omega) (by omega) _ _ hP hD hS ls (lv_sub hl [0, 1, 2, 3, 4] rfl)
          · refine lv_aload_n hx hb dX0_setScale_60 rfl (lv_at hl 2 rfl) ?_
            refine va_get (D := D) (ci := 0) (v := .ref (d 0)) (C := RX0) (T := TX0) (N := 12) hx hb hts hiw hown hK hP 0 rfl rfl 0 (by decide) (hts (.fieldLink RX0 9 "TunedWrens" "rungOfWren" "[I") (by decide +kernel)) (fun _ h9 => h9) rfl dX0_setScale_61 ?_
            refine lv_iload hx hb dX0_setScale_64 (lv_at hl 0 rfl) ?_
            refine lv_iconst (v := (-1)) hx hb dX0_setScale_66 (by decide) ?_
            refine va_iast hx hb hK hP hD hS 1 0 rfl rfl (vp_in_nI hk4 (by decide)) dX0_setScale_67 (fun H locs hP hD hS => ?_)
            have hP : va_P D vwCl (wX h d cA ((upd ((zLn (k2, m2, c.2.2.1, c.2.2.2.1, c.2.2.2.2) z.1 k).1) (nI k).toNatClampNeg (-1)), z.2.1, z.2.2.1, z.2.2.2.1, z.2.2.2.2.1, z.2.2.2.2.2.1, z.2.2.2.2.2.2) (k2, m2, c.2.2.1, c.2.2.2.1, c.2.2.2.2) ++ E) H := hP
            have hD : va_D (zA N0) (wX h d cA ((upd ((zLn (k2, m2, c.2.2.1, c.2.2.2.1, c.2.2.2.2) z.1 k).1) (nI k).toNatClampNeg (-1)), z.2.1, z.2.2.1, z.2.2.2.1, z.2.2.2.2.1, z.2.2.2.2.2.1, z.2.2.2.2.2.2) (k2, m2, c.2.2.1, c.2.2.2.1, c.2.2.2.2) ++ E) := hD
            refine lv_iinc (v := ((zLn (k2, m2, c.2.2.1, c.2.2.2.1, c.2.2.2.2) z.1 k).2 + 1)) (lv' := [(3, .int ((zLn (k2, m2, c.2.2.1, c.2.2.2.1, c.2.2.2.2) z.1 k).2 + 1)), (4, .int (nI k)), (0, .ref h), (1, .int (nI k2)), (2, .int (nI m2))]) hx hb dX0_setScale_68 hl (k := 1) rfl rfl (by decide) rfl (fun ls hl => ?_)
            refine lv_iinc (v := (nI (k + 1))) (lv' := [(4, .int (nI (k + 1))), (3, .int ((zLn (k2, m2, c.2.2.1, c.2.2.2.1, c.2.2.2.2) z.1 k).2 + 1)), (0, .ref h), (1, .int (nI k2)), (2, .int (nI m2))]) hx hb dX0_setScale_71 hl (k := 1) rfl (z_inc k 1) (by decide) rfl (fun ls hl => ?_)
            refine lv_goto (tgt := 29) hx hb dX0_setScale_74 (by decide) ?_
            have hl : lv_has ls 5 [(4, .int (nI (k + 1))), (3, .int ((zLn (k2, m2, c.2.2.1, c.2.2.2.1, c.2.2.2.2) z.1 (k + 1)).2)), (0, .ref h), (1, .int (nI k2)), (2, .int (nI m2))] := by
              rw [show ((zLn (k2, m2, c.2.2.1, c.2.2.2.1, c.2.2.2.2) z.1 (k + 1)).2 : Int32) = ((zLn (k2, m2, c.2.2.1, c.2.2.2.1, c.2.2.2.2) z.1 k).2 + 1) from (by rw [zLn_1 c_43 (Decidable.not_not.mp (zb_f c_57))])]
              exact hl
            have hP : va_P D vwCl (wX h d cA ((zLn (k2, m2, c.2.2.1, c.2.2.2.1, c.2.2.2.2) z.1 (k + 1)).1, z.2.1, z.2.2.1, z.2.2.2.1, z.2.2.2.2.1, z.2.2.2.2.2.1, z.2.2.2.2.2.2) (k2, m2, c.2.2.1, c.2.2.2.1, c.2.2.2.2) ++ E) H := by
              rw [show ((zLn (k2, m2, c.2.2.1, c.2.2.2.1, c.2.2.2.2) z.1 (k + 1)).1 : Nat → Int32) = (upd ((zLn (k2, m2, c.2.2.1, c.2.2.2.1, c.2.2.2.2) z.1 k).1) (nI k).toNatClampNeg (-1)) from (by rw [zLn_1 c_43 (Decidable.not_not.mp (zb_f c_57)), nI_clamp (show k < 2 ^ 31 by omega)])]
              exact hP
            have hD : va_D (zA N0) (wX h d cA ((zLn (k2, m2, c.2.2.1, c.2.2.2.1, c.2.2.2.2) z.1 (k + 1)).1, z.2.1, z.2.2.1, z.2.2.2.1, z.2.2.2.2.1, z.2.2.2.2.2.1, z.2.2.2.2.2.2) (k2, m2, c.2.2.1, c.2.2.2.1, c.2.2.2.2) ++ E) := by
              rw [show ((zLn (k2, m2, c.2.2.1, c.2.2.2.1, c.2.2.2.2) z.1 (k + 1)).1 : Nat → Int32) = (upd ((zLn (k2, m2, c.2.2.1, c.2.2.2.1, c.2.2.2.2) z.1 k).1) (nI k).toNatClampNeg (-1)) from (by rw [zLn_1 c_43 (Decidable.not_not.mp (zb_f c_57)), nI_clamp (show k < 2 ^ 31 by omega)])]
              exact hD
            exact ih (k + 1) (by omega) (by omega) _ _ hP hD hS ls (lv_sub hl [0, 1, 2, 3, 4] rfl)
  refine lv_iload_n hx hb dX0_setScale_0 rfl (lv_at hl 1 rfl) ?_
  refine lv_iconst (v := 0) hx hb dX0_setScale_1 (by decide) ?_
  refine lv_bipush (v := 11) hx hb dX0_setScale_2 (by decide) ?_
  refine va_csv ((va_runS (As := [.int (nI k2), .int 0, .int 11]) (rest := []) ⟨hx, hb, hml, hown, hts⟩ (c_X0_requireRange_v l (nI k2) 0 11 (zn_in (n := 11) (by omega) (by decide))) (va_cwS 3 hts gX0_setScale_X0_requireRange rfl rfl rfl (by decide +kernel) ⟨Nat.le_of_ble_eq_true rfl, Nat.le_of_ble_eq_true rfl⟩) ⟨zT.blind, zT.call⟩ rfl rfl hl.1 rfl (lv_room (Nat.le_of_ble_eq_true rfl)) dX0_setScale_4 ⟨Nat.zero_le _, Nat.zero_le _⟩).run) (fun _ => ?_)
  refine lv_iload_n hx hb dX0_setScale_7 rfl (lv_at hl 2 rfl) ?_
  refine lv_iconst (v := 0) hx hb dX0_setScale_8 (by decide) ?_
  refine lv_bipush (v := 7) hx hb dX0_setScale_9 (by decide) ?_
  refine va_csv ((va_runS (As := [.int (nI m2), .int 0, .int 7]) (rest := []) ⟨hx, hb, hml, hown, hts⟩ (c_X0_requireRange_v l (nI m2) 0 7 (zn_in (n := 7) (by omega) (by decide))) (va_cwS 3 hts gX0_setScale_X0_requireRange rfl rfl rfl (by decide +kernel) ⟨Nat.le_of_ble_eq_true rfl, Nat.le_of_ble_eq_true rfl⟩) ⟨zT.blind, zT.call⟩ rfl rfl hl.1 rfl (lv_room (Nat.le_of_ble_eq_true rfl)) dX0_setScale_11 ⟨Nat.zero_le _, Nat.zero_le _⟩).run) (fun _ => ?_)
  refine lv_aload_n hx hb dX0_setScale_14 rfl (lv_at hl 0 rfl) ?_
  refine lv_iload_n hx hb dX0_setScale_15 rfl (lv_at hl 1 rfl) ?_
  refine va_put (D := D) (ci := 0) (v := .int (nI k2)) (ty := .int) (C := RX0) (T := TX0) (N := 12) hx hb hts hiw tyX0 tyX0_ok nmX0 hown hK hP hD hS 0 rfl rfl 7 (by decide) (hts (.fieldLink RX0 31 "TunedWrens" "scaleKey" "I") (by decide +kernel)) (fun _ h9 => h9) rfl (by decide +kernel) rfl rfl (Nat.le_of_ble_eq_true rfl) dX0_setScale_16 (fun H locs hP hD hS => ?_)
  have hP : va_P D vwCl (wX h d cA z (k2, c.2.1, c.2.2.1, c.2.2.2.1, c.2.2.2.2) ++ E) H := hP
  have hD : va_D (zA N0) (wX h d cA z (k2, c.2.1, c.2.2.1, c.2.2.2.1, c.2.2.2.2) ++ E) := hD
  refine lv_aload_n hx hb dX0_setScale_19 rfl (lv_at hl 0 rfl) ?_
  refine lv_iload_n hx hb dX0_setScale_20 rfl (lv_at hl 2 rfl) ?_
  refine va_put (D := D) (ci := 0) (v := .int (nI m2)) (ty := .int) (C := RX0) (T := TX0) (N := 12) hx hb hts hiw tyX0 tyX0_ok nmX0 hown hK hP hD hS 0 rfl rfl 8 (by decide) (hts (.fieldLink RX0 35 "TunedWrens" "scaleMode" "I") (by decide +kernel)) (fun _ h9 => h9) rfl (by decide +kernel) rfl rfl (Nat.le_of_ble_eq_true rfl) dX0_setScale_21 (fun H locs hP hD hS => ?_)
  have hP : va_P D vwCl (wX h d cA z (k2, m2, c.2.2.1, c.2.2.2.1, c.2.2.2.2) ++ E) H := hP
  have hD : va_D (zA N0) (wX h d cA z (k2, m2, c.2.2.1, c.2.2.2.1, c.2.2.2.2) ++ E) := hD
  refine lv_iconst (v := 0) hx hb dX0_setScale_24 (by decide) ?_
  refine lv_istore_n (lv' := [(3, .int 0), (0, .ref h), (1, .int (nI k2)), (2, .int (nI m2))]) hx hb dX0_setScale_25 rfl hl (by decide) rfl (fun ls hl => ?_)
  refine lv_iconst (v := 0) hx hb dX0_setScale_26 (by decide) ?_
  refine lv_istore (lv' := [(4, .int 0), (3, .int 0), (0, .ref h), (1, .int (nI k2)), (2, .int (nI m2))]) hx hb dX0_setScale_27 hl (by decide) rfl (fun ls hl => ?_)
  exact loop 5 0 (by decide) (by decide) _ _ hP hD hS ls (lv_sub hl [0, 1, 2, 3, 4] rfl)
end
section
def zI : S7 := (upd (upd (upd (upd (fun _ => 0) (0 : Int32).toNatClampNeg (-1)) (1 : Int32).toNatClampNeg (-1)) (2 : Int32).toNatClampNeg (-1)) (3 : Int32).toNatClampNeg (-1), fun _ => 0, fun _ => 0, fun _ => 0, fun _ => 0, fun _ => 0, fun _ => 0)
def cI : C5 := (0, 0, 100, 60, 400)
theorem cI_ok : okC cI := ⟨by decide, by decide, by decide⟩
def zAd (a0 a1 a2 a3 a4 a5 a6 : Nat) : Nat → Nat
  | 0 => a0
  | 1 => a1
  | 2 => a2
  | 3 => a3
  | 4 => a4
  | 5 => a5
  | _ => a6
theorem zcA {D : va_G} {cl : List vw_C} {tys : List (ClassId × FieldType)} {U : State} (h : va_K D cl tys U) {i j : Nat} {a b : ClassId} (h1 : tys[i]? = some (a, .int)) (h2 : tys[j]? = some (b, .int)) : b = a := by
  have e1 : U.vm.findClass _ = some a := (h.2 i _ h1).2
  have e2 : U.vm.findClass _ = some b := (h.2 j _ h2).2
  exact (Option.some.inj (e1.symm.trans e2)).symm
def zPre0 (D : va_G) (N0 : Nat) (tys : List (ClassId × FieldType)) (W : va_W) (U : State) : Prop := N0 ≤ U.heap.size ∧ va_P D vwCl W U.heap ∧ va_D (zA N0) W ∧ va_K D vwCl tys U
theorem zPre0.blind {D : va_G} {N0 : Nat} {tys : List (ClassId × FieldType)} {W : va_W} {av : List Value} : FrameBlind (va_Pc av (zPre0 D N0 tys W)) := by
  intro a U g mk h
  obtain ⟨h0, h1, h2, h3, h4⟩ := h
  exact ⟨h0, h1, h2, h3, va_K.moved (u := U) (U := U.calling g mk a) (Vm.Alike.refl U.vm) h4⟩

set_option maxHeartbeats 4000000 in
set_option maxRecDepth 100000 in
theorem c_X0_init (l : Launch) (D : va_G) (N0 h : Nat) : Met l yX0_init wsX0_init ({ frames := 1, cells := 7, slots := 36, locals := 12 }) (va_Pc [.ref h] (zPre0 D N0 [] [(h, .inr (0, [.null, .null, .null, .null, .null, .null, .null, .int 0, .int 0, .int 0, .int 0, .int 0]))])) (va_Qv (fun (_ : Unit) => True) (fun _ t => ∃ (d : Nat → Nat) (cA : ClassId), zPost D N0 (wX h d cA zI cI) t ∧ va_K D vwCl [(cA, .int)] t) (zA N0)) 7 36 (zA N0) := by
  refine Met.ofW (cc := cX0_init) (maxL := 1) (ret := none) (by decide) rfl ?_
  intro pr e s m ag below meth cd s₁ B hml hv
  obtain ⟨rfl, hN, hP, hD, hK⟩ := hv
  have hx := B.exec
  have hb := B.bytes
  have hr := B.returns
  have hts := atoms_spec (ws := wsX0_init) B.pre
  have hown : s.vm.findClass RX0 = some m.cls := findClass_of_methodNamed B.named
  have hlocks := B.notSynchronized
  have hin : meth.name = "<init>" := (name_of_methodNamed B.named B.method).1
  have hS : va_S (zA N0) s.heap s.heap [] := va_S.rf
  have hA : ∀ q : Nat, s.heap.size ≤ q → zA N0 q := fun q h9 => Nat.le_trans hN h9
  have hiw : ∀ w ∈ u_ws RX0 TX0 12, w ∈ wsX0_init := by decide +kernel
  have hl := lv_entry ([.ref h]) (n := 1) (Nat.le_of_ble_eq_true rfl)
  rw [lg_entry_eq]
  generalize (lg_sl ([.ref h]) ++ List.replicate (1 - (lg_sl ([.ref h])).length) Slot.unset).toArray = ls at hl ⊢
  have hl : lv_has ls 1 [(0, .ref h)] := hl
  refine lv_aload_n hx hb dX0_init_0 rfl (lv_at hl 0 rfl) ?_
  refine W.objInit hx hb hown (hts (.methodLink RX0 1 objectInit) (by decide +kernel)) (hts (.instanceMethod objectInit) (by decide +kernel)) (hts (.code objectInit ⟨#[0xb1]⟩ 1 none) (by decide +kernel)) rfl (by rw [hml]; exact hl.1) rfl dX0_init_1 (Nat.le_of_ble_eq_true rfl) (Nat.le_of_ble_eq_true rfl) ?_
  refine W.eq (g2 := F0 m 4 ls []) rfl ?_
  refine lv_aload_n hx hb dX0_init_4 rfl (lv_at hl 0 rfl) ?_
  refine lv_iconst (v := 4) hx hb dX0_init_5 (by decide) ?_
  refine va_newa (atype := .int) (ty := .int) (N' := 4) (a0 := (4, .inl (fun _ => 0))) hx hb (hts (.arrayClass .int) (by decide +kernel)) rfl hK hP hD hS hA (fun _ => rfl) (by decide) (by decide) (by decide) (Nat.le_of_ble_eq_true rfl) (Nat.le_of_ble_eq_true rfl) dX0_init_6 (fun q0 cA H hK hP hD hS => ?_)
  have hP : va_P D vwCl [(h, .inr (0, [.null, .null, .null, .null, .null, .null, .null, .int 0, .int 0, .int 0, .int 0, .int 0])), (q0, .inl (cA, 4, .inl (fun _ => 0)))] H := hP
  have hD : va_D (zA N0) [(h, .inr (0, [.null, .null, .null, .null, .null, .null, .null, .int 0, .int 0, .int 0, .int 0, .int 0])), (q0, .inl (cA, 4, .inl (fun _ => 0)))] := hD
  refine lv_dup hx hb dX0_init_8 rfl ?_
  refine lv_iconst (v := 0) hx hb dX0_init_9 (by decide) ?_
  refine lv_iconst (v := (-1)) hx hb dX0_init_10 (by decide) ?_
  refine va_iast hx hb hK hP hD hS 1 0 rfl rfl (vp_in_nI (n := 0) (by decide) (by decide)) dX0_init_11 (fun H locs hP hD hS => ?_)
  have hP : va_P D vwCl [(h, .inr (0, [.null, .null, .null, .null, .null, .null, .null, .int 0, .int 0, .int 0, .int 0, .int 0])), (q0, .inl (cA, 4, .inl (upd (fun _ => 0) (0 : Int32).toNatClampNeg (-1))))] H := hP
  have hD : va_D (zA N0) [(h, .inr (0, [.null, .null, .null, .null, .null, .null, .null, .int 0, .int 0, .int 0, .int 0, .int 0])), (q0, .inl (cA, 4, .inl (upd (fun _ => 0) (0 : Int32).toNatClampNeg (-1))))] := hD
  refine lv_dup hx hb dX0_init_12 rfl ?_
  refine lv_iconst (v := 1) hx hb dX0_init_13 (by decide) ?_
  refine lv_iconst (v := (-1)) hx hb dX0_init_14 (by decide) ?_
  refine va_iast hx hb hK hP hD hS 1 0 rfl rfl (vp_in_nI (n := 1) (by decide) (by decide)) dX0_init_15 (fun H locs hP hD hS => ?_)
  have hP : va_P D vwCl [(h, .inr (0, [.null, .null, .null, .null, .null, .null, .null, .int 0, .int 0, .int 0, .int 0, .int 0])), (q0, .inl (cA, 4, .inl (upd (upd (fun _ => 0) (0 : Int32).toNatClampNeg (-1)) (1 : Int32).toNatClampNeg (-1))))] H := hP
  have hD : va_D (zA N0) [(h, .inr (0, [.null, .null, .null, .null, .null, .null, .null, .int 0, .int 0, .int 0, .int 0, .int 0])), (q0, .inl (cA, 4, .inl (upd (upd (fun _ => 0) (0 : Int32).toNatClampNeg (-1)) (1 : Int32).toNatClampNeg (-1))))] := hD
  refine lv_dup hx hb dX0_init_16 rfl ?_
  refine lv_iconst (v := 2) hx hb dX0_init_17 (by decide) ?_
  refine lv_iconst (v := (-1)) hx hb dX0_init_18 (by decide) ?_
  refine va_iast hx hb hK hP hD hS 1 0 rfl rfl (vp_in_nI (n := 2) (by decide) (by decide)) dX0_init_19 (fun H locs hP hD hS => ?_)
  have hP : va_P D vwCl [(h, .inr (0, [.null, .null, .null, .null, .null, .null, .null, .int 0, .int 0, .int 0, .int 0, .int 0])), (q0, .inl (cA, 4, .inl (upd (upd (upd (fun _ => 0) (0 : Int32).toNatClampNeg (-1)) (1 : Int32).toNatClampNeg (-1)) (2 : Int32).toNatClampNeg (-1))))] H := hP
  have hD : va_D (zA N0) [(h, .inr (0, [.null, .null, .null, .null, .null, .null, .null, .int 0, .int 0, .int 0, .int 0, .int 0])), (q0, .inl (cA, 4, .inl (upd (upd (upd (fun _ => 0) (0 : Int32).toNatClampNeg (-1)) (1 : Int32).toNatClampNeg (-1)) (2 : Int32).toNatClampNeg (-1))))] := hD
  refine lv_dup hx hb dX0_init_20 rfl ?_
  refine lv_iconst (v := 3) hx hb dX0_init_21 (by decide) ?_
  refine lv_iconst (v := (-1)) hx hb dX0_init_22 (by decide) ?_
  refine va_iast hx hb hK hP hD hS 1 0 rfl rfl (vp_in_nI (n := 3) (by decide) (by decide)) dX0_init_23 (fun H locs hP hD hS => ?_)
  have hP : va_P D vwCl [(h, .inr (0, [.null, .null, .null, .null, .null, .null, .null, .int 0, .int 0, .int 0, .int 0, .int 0])), (q0, .inl (cA, 4, .inl (upd (upd (upd (upd (fun _ => 0) (0 : Int32).toNatClampNeg (-1)) (1 : Int32).toNatClampNeg (-1)) (2 : Int32).toNatClampNeg (-1)) (3 : Int32).toNatClampNeg (-1))))] H := hP
  have hD : va_D (zA N0) [(h, .inr (0, [.null, .null, .null, .null, .null, .null, .null, .int 0, .int 0, .int 0, .int 0, .int 0])), (q0, .inl (cA, 4, .inl (upd (upd (upd (upd (fun _ => 0) (0 : Int32).toNatClampNeg (-1)) (1 : Int32).toNatClampNeg (-1)) (2 : Int32).toNatClampNeg (-1)) (3 : Int32).toNatClampNeg (-1))))] := hD
  refine va_putF (D := D) (ci := 0) (v := .ref q0) (ty := (.array .int)) (C := RX0) (T := TX0) (N := 12) hx hb hts hiw tyX0 tyX0_ok nmX0 hown hK hP hD hS 0 rfl rfl 0 (by decide) (hts (.fieldLink RX0 9 "TunedWrens" "rungOfWren" "[I") (by decide +kernel)) (fun _ h9 => h9) rfl hin rfl (by decide +kernel) rfl rfl (Nat.le_of_ble_eq_true rfl) dX0_init_24 (fun H locs hP hD hS => ?_)
  have hP : va_P D vwCl [(h, .inr (0, [.ref q0, .null, .null, .null, .null, .null, .null, .int 0, .int 0, .int 0, .int 0, .int 0])), (q0, .inl (cA, 4, .inl (upd (upd (upd (upd (fun _ => 0) (0 : Int32).toNatClampNeg (-1)) (1 : Int32).toNatClampNeg (-1)) (2 : Int32).toNatClampNeg (-1)) (3 : Int32).toNatClampNeg (-1))))] H := hP
  have hD : va_D (zA N0) [(h, .inr (0, [.ref q0, .null, .null, .null, .null, .null, .null, .int 0, .int 0, .int 0, .int 0, .int 0])), (q0, .inl (cA, 4, .inl (upd (upd (upd (upd (fun _ => 0) (0 : Int32).toNatClampNeg (-1)) (1 : Int32).toNatClampNeg (-1)) (2 : Int32).toNatClampNeg (-1)) (3 : Int32).toNatClampNeg (-1))))] := hD
  refine lv_aload_n hx hb dX0_init_27 rfl (lv_at hl 0 rfl) ?_
  refine lv_iconst (v := 4) hx hb dX0_init_28 (by decide) ?_
  refine va_newa (atype := .int) (ty := .int) (N' := 4) (a0 := (4, .inl (fun _ => 0))) hx hb (hts (.arrayClass .int) (by decide +kernel)) rfl hK hP hD hS hA (fun _ => rfl) (by decide) (by decide) (by decide) (Nat.le_of_ble_eq_true rfl) (Nat.le_of_ble_eq_true rfl) dX0_init_29 (fun q1 cB H hK hP hD hS => ?_)
  obtain rfl : cA = cB := (zcA hK (i := 0) (j := 1) rfl rfl).symm
  have hK : va_K D vwCl [(cA, .int)] s := hK.sub [0] rfl
  have hP : va_P D vwCl [(h, .inr (0, [.ref q0, .null, .null, .null, .null, .null, .null, .int 0, .int 0, .int 0, .int 0, .int 0])), (q0, .inl (cA, 4, .inl (upd (upd (upd (upd (fun _ => 0) (0 : Int32).toNatClampNeg (-1)) (1 : Int32).toNatClampNeg (-1)) (2 : Int32).toNatClampNeg (-1)) (3 : Int32).toNatClampNeg (-1)))), (q1, .inl (cA, 4, .inl (fun _ => 0)))] H := hP
  have hD : va_D (zA N0) [(h, .inr (0, [.ref q0, .null, .null, .null, .null, .null, .null, .int 0, .int 0, .int 0, .int 0, .int 0])), (q0, .inl (cA, 4, .inl (upd (upd (upd (upd (fun _ => 0) (0 : Int32).toNatClampNeg (-1)) (1 : Int32).toNatClampNeg (-1)) (2 : Int32).toNatClampNeg (-1)) (3 : Int32).toNatClampNeg (-1)))), (q1, .inl (cA, 4, .inl (fun _ => 0)))] := hD
  refine va_putF (D := D) (ci := 0) (v := .ref q1) (ty := (.array .int)) (C := RX0) (T := TX0) (N := 12) hx hb hts hiw tyX0 tyX0_ok nmX0 hown hK hP hD hS 0 rfl rfl 1 (by decide) (hts (.fieldLink RX0 13 "TunedWrens" "nudgeOfWren" "[I") (by decide +kernel)) (fun _ h9 => h9) rfl hin rfl (by decide +kernel) rfl rfl (Nat.le_of_ble_eq_true rfl) dX0_init_31 (fun H locs hP hD hS => ?_)
  have hP : va_P D vwCl [(h, .inr (0, [.ref q0, .ref q1, .null, .null, .null, .null, .null, .int 0, .int 0, .int 0, .int 0, .int 0])), (q0, .inl (cA, 4, .inl (upd (upd (upd (upd (fun _ => 0) (0 : Int32).toNatClampNeg (-1)) (1 : Int32).toNatClampNeg (-1)) (2 : Int32).toNatClampNeg (-1)) (3 : Int32).toNatClampNeg (-1)))), (q1, .inl (cA, 4, .inl (fun _ => 0)))] H := hP
  have hD : va_D (zA N0) [(h, .inr (0, [.ref q0, .ref q1, .null, .null, .null, .null, .null, .int 0, .int 0, .int 0, .int 0, .int 0])), (q0, .inl (cA, 4, .inl (upd (upd (upd (upd (fun _ => 0) (0 : Int32).toNatClampNeg (-1)) (1 : Int32).toNatClampNeg (-1)) (2 : Int32).toNatClampNeg (-1)) (3 : Int32).toNatClampNeg (-1)))), (q1, .inl (cA, 4, .inl (fun _ => 0)))] := hD
  refine lv_aload_n hx hb dX0_init_34 rfl (lv_at hl 0 rfl) ?_
  refine lv_iconst (v := 4) hx hb dX0_init_35 (by decide) ?_
  refine va_newa (atype := .int) (ty := .int) (N' := 4) (a0 := (4, .inl (fun _ => 0))) hx hb (hts (.arrayClass .int) (by decide +kernel)) rfl hK hP hD hS hA (fun _ => rfl) (by decide) (by decide) (by decide) (Nat.le_of_ble_eq_true rfl) (Nat.le_of_ble_eq_true rfl) dX0_init_36 (fun q2 cB H hK hP hD hS => ?_)
  obtain rfl : cA = cB := (zcA hK (i := 0) (j := 1) rfl rfl).symm
  have hK : va_K D vwCl [(cA, .int)] s := hK.sub [0] rfl
  have hP : va_P D vwCl [(h, .inr (0, [.ref q0, .ref q1, .null, .null, .null, .null, .null, .int 0, .int 0, .int 0, .int 0, .int 0])), (q0, .inl (cA, 4, .inl (upd (upd (upd (upd (fun _ => 0) (0 : Int32).toNatClampNeg (-1)) (1 : Int32).toNatClampNeg (-1)) (2 : Int32).toNatClampNeg (-1)) (3 : Int32).toNatClampNeg (-1)))), (q1, .inl (cA, 4, .inl (fun _ => 0))), (q2, .inl (cA, 4, .inl (fun _ => 0)))] H := hP
  have hD : va_D (zA N0) [(h, .inr (0, [.ref q0, .ref q1, .null, .null, .null, .null, .null, .int 0, .int 0, .int 0, .int 0, .int 0])), (q0, .inl (cA, 4, .inl (upd (upd (upd (upd (fun _ => 0) (0 : Int32).toNatClampNeg (-1)) (1 : Int32).toNatClampNeg (-1)) (2 : Int32).toNatClampNeg (-1)) (3 : Int32).toNatClampNeg (-1)))), (q1, .inl (cA, 4, .inl (fun _ => 0))), (q2, .inl (cA, 4, .inl (fun _ => 0)))] := hD
  refine va_putF (D := D) (ci := 0) (v := .ref q2) (ty := (.array .int)) (C := RX0) (T := TX0) (N := 12) hx hb hts hiw tyX0 tyX0_ok nmX0 hown hK hP hD hS 0 rfl rfl 2 (by decide) (hts (.fieldLink RX0 16 "TunedWrens" "framesOfWren" "[I") (by decide +kernel)) (fun _ h9 => h9) rfl hin rfl (by decide +kernel) rfl rfl (Nat.le_of_ble_eq_true rfl) dX0_init_38 (fun H locs hP hD hS => ?_)
  have hP : va_P D vwCl [(h, .inr (0, [.ref q0, .ref q1, .ref q2, .null, .null, .null, .null, .int 0, .int 0, .int 0, .int 0, .int 0])), (q0, .inl (cA, 4, .inl (upd (upd (upd (upd (fun _ => 0) (0 : Int32).toNatClampNeg (-1)) (1 : Int32).toNatClampNeg (-1)) (2 : Int32).toNatClampNeg (-1)) (3 : Int32).toNatClampNeg (-1)))), (q1, .inl (cA, 4, .inl (fun _ => 0))), (q2, .inl (cA, 4, .inl (fun _ => 0)))] H := hP
  have hD : va_D (zA N0) [(h, .inr (0, [.ref q0, .ref q1, .ref q2, .null, .null, .null, .null, .int 0, .int 0, .int 0, .int 0, .int 0])), (q0, .inl (cA, 4, .inl (upd (upd (upd (upd (fun _ => 0) (0 : Int32).toNatClampNeg (-1)) (1 : Int32).toNatClampNeg (-1)) (2 : Int32).toNatClampNeg (-1)) (3 : Int32).toNatClampNeg (-1)))), (q1, .inl (cA, 4, .inl (fun _ => 0))), (q2, .inl (cA, 4, .inl (fun _ => 0)))] := hD
  refine lv_aload_n hx hb dX0_init_41 rfl (lv_at hl 0 rfl) ?_
  refine lv_iconst (v := 4) hx hb dX0_init_42 (by decide) ?_
  refine va_newa (atype := .int) (ty := .int) (N' := 4) (a0 := (4, .inl (fun _ => 0))) hx hb (hts (.arrayClass .int) (by decide +kernel)) rfl hK hP hD hS hA (fun _ => rfl) (by decide) (by decide) (by decide) (Nat.le_of_ble_eq_true rfl) (Nat.le_of_ble_eq_true rfl) dX0_init_43 (fun q3 cB H hK hP hD hS => ?_)
  obtain rfl : cA = cB := (zcA hK (i := 0) (j := 1) rfl rfl).symm
  have hK : va_K D vwCl [(cA, .int)] s := hK.sub [0] rfl
  have hP : va_P D vwCl [(h, .inr (0, [.ref q0, .ref q1, .ref q2, .null, .null, .null, .null, .int 0, .int 0, .int 0, .int 0, .int 0])), (q0, .inl (cA, 4, .inl (upd (upd (upd (upd (fun _ => 0) (0 : Int32).toNatClampNeg (-1)) (1 : Int32).toNatClampNeg (-1)) (2 : Int32).toNatClampNeg (-1)) (3 : Int32).toNatClampNeg (-1)))), (q1, .inl (cA, 4, .inl (fun _ => 0))), (q2, .inl (cA, 4, .inl (fun _ => 0))), (q3, .inl (cA, 4, .inl (fun _ => 0)))] H := hP
  have hD : va_D (zA N0) [(h, .inr (0, [.ref q0, .ref q1, .ref q2, .null, .null, .null, .null, .int 0, .int 0, .int 0, .int 0, .int 0])), (q0, .inl (cA, 4, .inl (upd (upd (upd (upd (fun _ => 0) (0 : Int32).toNatClampNeg (-1)) (1 : Int32).toNatClampNeg (-1)) (2 : Int32).toNatClampNeg (-1)) (3 : Int32).toNatClampNeg (-1)))), (q1, .inl (cA, 4, .inl (fun _ => 0))), (q2, .inl (cA, 4, .inl (fun _ => 0))), (q3, .inl (cA, 4, .inl (fun _ => 0)))] := hD
  refine va_putF (D := D) (ci := 0) (v := .ref q3) (ty := (.array .int)) (C := RX0) (T := TX0) (N := 12) hx hb hts hiw tyX0 tyX0_ok nmX0 hown hK hP hD hS 0 rfl rfl 3 (by decide) (hts (.fieldLink RX0 19 "TunedWrens" "changesOfWren" "[I") (by decide +kernel)) (fun _ h9 => h9) rfl hin rfl (by decide +kernel) rfl rfl (Nat.le_of_ble_eq_true rfl) dX0_init_45 (fun H locs hP hD hS => ?_)
  have hP : va_P D vwCl [(h, .inr (0, [.ref q0, .ref q1, .ref q2, .ref q3, .null, .null, .null, .int 0, .int 0, .int 0, .int 0, .int 0])), (q0, .inl (cA, 4, .inl (upd (upd (upd (upd (fun _ => 0) (0 : Int32).toNatClampNeg (-1)) (1 : Int32).toNatClampNeg (-1)) (2 : Int32).toNatClampNeg (-1)) (3 : Int32).toNatClampNeg (-1)))), (q1, .inl (cA, 4, .inl (fun _ => 0))), (q2, .inl (cA, 4, .inl (fun _ => 0))), (q3, .inl (cA, 4, .inl (fun _ => 0)))] H := hP
  have hD : va_D (zA N0) [(h, .inr (0, [.ref q0, .ref q1, .ref q2, .ref q3, .null, .null, .null, .int 0, .int 0, .int 0, .int 0, .int 0])), (q0, .inl (cA, 4, .inl (upd (upd (upd (upd (fun _ => 0) (0 : Int32).toNatClampNeg (-1)) (1 : Int32).toNatClampNeg (-1)) (2 : Int32).toNatClampNeg (-1)) (3 : Int32).toNatClampNeg (-1)))), (q1, .inl (cA, 4, .inl (fun _ => 0))), (q2, .inl (cA, 4, .inl (fun _ => 0))), (q3, .inl (cA, 4, .inl (fun _ => 0)))] := hD
  refine lv_aload_n hx hb dX0_init_48 rfl (lv_at hl 0 rfl) ?_
  refine lv_iconst (v := 4) hx hb dX0_init_49 (by decide) ?_
  refine va_newa (atype := .int) (ty := .int) (N' := 4) (a0 := (4, .inl (fun _ => 0))) hx hb (hts (.arrayClass .int) (by decide +kernel)) rfl hK hP hD hS hA (fun _ => rfl) (by decide) (by decide) (by decide) (Nat.le_of_ble_eq_true rfl) (Nat.le_of_ble_eq_true rfl) dX0_init_50 (fun q4 cB H hK hP hD hS => ?_)
  obtain rfl : cA = cB := (zcA hK (i := 0) (j := 1) rfl rfl).symm
  have hK : va_K D vwCl [(cA, .int)] s := hK.sub [0] rfl
  have hP : va_P D vwCl [(h, .inr (0, [.ref q0, .ref q1, .ref q2, .ref q3, .null, .null, .null, .int 0, .int 0, .int 0, .int 0, .int 0])), (q0, .inl (cA, 4, .inl (upd (upd (upd (upd (fun _ => 0) (0 : Int32).toNatClampNeg (-1)) (1 : Int32).toNatClampNeg (-1)) (2 : Int32).toNatClampNeg (-1)) (3 : Int32).toNatClampNeg (-1)))), (q1, .inl (cA, 4, .inl (fun _ => 0))), (q2, .inl (cA, 4, .inl (fun _ => 0))), (q3, .inl (cA, 4, .inl (fun _ => 0))), (q4, .inl (cA, 4, .inl (fun _ => 0)))] H := hP
  have hD : va_D (zA N0) [(h, .inr (0, [.ref q0, .ref q1, .ref q2, .ref q3, .null, .null, .null, .int 0, .int 0, .int 0, .int 0, .int 0])), (q0, .inl (cA, 4, .inl (upd (upd (upd (upd (fun _ => 0) (0 : Int32).toNatClampNeg (-1)) (1 : Int32).toNatClampNeg (-1)) (2 : Int32).toNatClampNeg (-1)) (3 : Int32).toNatClampNeg (-1)))), (q1, .inl (cA, 4, .inl (fun _ => 0))), (q2, .inl (cA, 4, .inl (fun _ => 0))), (q3, .inl (cA, 4, .inl (fun _ => 0))), (q4, .inl (cA, 4, .inl (fun _ => 0)))] := hD
  refine va_putF (D := D) (ci := 0) (v := .ref q4) (ty := (.array .int)) (C := RX0) (T := TX0) (N := 12) hx hb hts hiw tyX0 tyX0_ok nmX0 hown hK hP hD hS 0 rfl rfl 4 (by decide) (hts (.fieldLink RX0 22 "TunedWrens" "leapsOfWren" "[I") (by decide +kernel)) (fun _ h9 => h9) rfl hin rfl (by decide +kernel) rfl rfl (Nat.le_of_ble_eq_true rfl) dX0_init_52 (fun H locs hP hD hS => ?_)
  have hP : va_P D vwCl [(h, .inr (0, [.ref q0, .ref q1, .ref q2, .ref q3, .ref q4, .null, .null, .int 0, .int 0, .int 0, .int 0, .int 0])), (q0, .inl (cA, 4, .inl (upd (upd (upd (upd (fun _ => 0) (0 : Int32).toNatClampNeg (-1)) (1 : Int32).toNatClampNeg (-1)) (2 : Int32).toNatClampNeg (-1)) (3 : Int32).toNatClampNeg (-1)))), (q1, .inl (cA, 4, .inl (fun _ => 0))), (q2, .inl (cA, 4, .inl (fun _ => 0))), (q3, .inl (cA, 4, .inl (fun _ => 0))), (q4, .inl (cA, 4, .inl (fun _ => 0)))] H := hP
  have hD : va_D (zA N0) [(h, .inr (0, [.ref q0, .ref q1, .ref q2, .ref q3, .ref q4, .null, .null, .int 0, .int 0, .int 0, .int 0, .int 0])), (q0, .inl (cA, 4, .inl (upd (upd (upd (upd (fun _ => 0) (0 : Int32).toNatClampNeg (-1)) (1 : Int32).toNatClampNeg (-1)) (2 : Int32).toNatClampNeg (-1)) (3 : Int32).toNatClampNeg (-1)))), (q1, .inl (cA, 4, .inl (fun _ => 0))), (q2, .inl (cA, 4, .inl (fun _ => 0))), (q3, .inl (cA, 4, .inl (fun _ => 0))), (q4, .inl (cA, 4, .inl (fun _ => 0)))] := hD
  refine lv_aload_n hx hb dX0_init_55 rfl (lv_at hl 0 rfl) ?_
  refine lv_iconst (v := 4) hx hb dX0_init_56 (by decide) ?_
  refine va_newa (atype := .int) (ty := .int) (N' := 4) (a0 := (4, .inl (fun _ => 0))) hx hb (hts (.arrayClass .int) (by decide +kernel)) rfl hK hP hD hS hA (fun _ => rfl) (by decide) (by decide) (by decide) (Nat.le_of_ble_eq_true rfl) (Nat.le_of_ble_eq_true rfl) dX0_init_57 (fun q5 cB H hK hP hD hS => ?_)
  obtain rfl : cA = cB := (zcA hK (i := 0) (j := 1) rfl rfl).symm
  have hK : va_K D vwCl [(cA, .int)] s := hK.sub [0] rfl
  have hP : va_P D vwCl [(h, .inr (0, [.ref q0, .ref q1, .ref q2, .ref q3, .ref q4, .null, .null, .int 0, .int 0, .int 0, .int 0, .int 0])), (q0, .inl (cA, 4, .inl (upd (upd (upd (upd (fun _ => 0) (0 : Int32).toNatClampNeg (-1)) (1 : Int32).toNatClampNeg (-1)) (2 : Int32).toNatClampNeg (-1)) (3 : Int32).toNatClampNeg (-1)))), (q1, .inl (cA, 4, .inl (fun _ => 0))), (q2, .inl (cA, 4, .inl (fun _ => 0))), (q3, .inl (cA, 4, .inl (fun _ => 0))), (q4, .inl (cA, 4, .inl (fun _ => 0))), (q5, .inl (cA, 4, .inl (fun _ => 0)))] H := hP
  have hD : va_D (zA N0) [(h, .inr (0, [.ref q0, .ref q1, .ref q2, .ref q3, .ref q4, .null, .null, .int 0, .int 0, .int 0, .int 0, .int 0])), (q0, .inl (cA, 4, .inl (upd (upd (upd (upd (fun _ => 0) (0 : Int32).toNatClampNeg (-1)) (1 : Int32).toNatClampNeg (-1)) (2 : Int32).toNatClampNeg (-1)) (3 : Int32).toNatClampNeg (-1)))), (q1, .inl (cA, 4, .inl (fun _ => 0))), (q2, .inl (cA, 4, .inl (fun _ => 0))), (q3, .inl (cA, 4, .inl (fun _ => 0))), (q4, .inl (cA, 4, .inl (fun _ => 0))), (q5, .inl (cA, 4, .inl (fun _ => 0)))] := hD
  refine va_putF (D := D) (ci := 0) (v := .ref q5) (ty := (.array .int)) (C := RX0) (T := TX0) (N := 12) hx hb hts hiw tyX0 tyX0_ok nmX0 hown hK hP hD hS 0 rfl rfl 5 (by decide) (hts (.fieldLink RX0 25 "TunedWrens" "cleanOfWren" "[I") (by decide +kernel)) (fun _ h9 => h9) rfl hin rfl (by decide +kernel) rfl rfl (Nat.le_of_ble_eq_true rfl) dX0_init_59 (fun H locs hP hD hS => ?_)
  have hP : va_P D vwCl [(h, .inr (0, [.ref q0, .ref q1, .ref q2, .ref q3, .ref q4, .ref q5, .null, .int 0, .int 0, .int 0, .int 0, .int 0])), (q0, .inl (cA, 4, .inl (upd (upd (upd (upd (fun _ => 0) (0 : Int32).toNatClampNeg (-1)) (1 : Int32).toNatClampNeg (-1)) (2 : Int32).toNatClampNeg (-1)) (3 : Int32).toNatClampNeg (-1)))), (q1, .inl (cA, 4, .inl (fun _ => 0))), (q2, .inl (cA, 4, .inl (fun _ => 0))), (q3, .inl (cA, 4, .inl (fun _ => 0))), (q4, .inl (cA, 4, .inl (fun _ => 0))), (q5, .inl (cA, 4, .inl (fun _ => 0)))] H := hP
  have hD : va_D (zA N0) [(h, .inr (0, [.ref q0, .ref q1, .ref q2, .ref q3, .ref q4, .ref q5, .null, .int 0, .int 0, .int 0, .int 0, .int 0])), (q0, .inl (cA, 4, .inl (upd (upd (upd (upd (fun _ => 0) (0 : Int32).toNatClampNeg (-1)) (1 : Int32).toNatClampNeg (-1)) (2 : Int32).toNatClampNeg (-1)) (3 : Int32).toNatClampNeg (-1)))), (q1, .inl (cA, 4, .inl (fun _ => 0))), (q2, .inl (cA, 4, .inl (fun _ => 0))), (q3, .inl (cA, 4, .inl (fun _ => 0))), (q4, .inl (cA, 4, .inl (fun _ => 0))), (q5, .inl (cA, 4, .inl (fun _ => 0)))] := hD
  refine lv_aload_n hx hb dX0_init_62 rfl (lv_at hl 0 rfl) ?_
  refine lv_bipush (v := 12) hx hb dX0_init_63 (by decide) ?_
  refine va_newa (atype := .int) (ty := .int) (N' := 12) (a0 := (12, .inl (fun _ => 0))) hx hb (hts (.arrayClass .int) (by decide +kernel)) rfl hK hP hD hS hA (fun _ => rfl) (by decide) (by decide) (by decide) (Nat.le_of_ble_eq_true rfl) (Nat.le_of_ble_eq_true rfl) dX0_init_65 (fun q6 cB H hK hP hD hS => ?_)
  obtain rfl : cA = cB := (zcA hK (i := 0) (j := 1) rfl rfl).symm
  have hK : va_K D vwCl [(cA, .int)] s := hK.sub [0] rfl
  have hP : va_P D vwCl [(h, .inr (0, [.ref q0, .ref q1, .ref q2, .ref q3, .ref q4, .ref q5, .null, .int 0, .int 0, .int 0, .int 0, .int 0])), (q0, .inl (cA, 4, .inl (upd (upd (upd (upd (fun _ => 0) (0 : Int32).toNatClampNeg (-1)) (1 : Int32).toNatClampNeg (-1)) (2 : Int32).toNatClampNeg (-1)) (3 : Int32).toNatClampNeg (-1)))), (q1, .inl (cA, 4, .inl (fun _ => 0))), (q2, .inl (cA, 4, .inl (fun _ => 0))), (q3, .inl (cA, 4, .inl (fun _ => 0))), (q4, .inl (cA, 4, .inl (fun _ => 0))), (q5, .inl (cA, 4, .inl (fun _ => 0))), (q6, .inl (cA, 12, .inl (fun _ => 0)))] H := hP
  have hD : va_D (zA N0) [(h, .inr (0, [.ref q0, .ref q1, .ref q2, .ref q3, .ref q4, .ref q5, .null, .int 0, .int 0, .int 0, .int 0, .int 0])), (q0, .inl (cA, 4, .inl (upd (upd (upd (upd (fun _ => 0) (0 : Int32).toNatClampNeg (-1)) (1 : Int32).toNatClampNeg (-1)) (2 : Int32).toNatClampNeg (-1)) (3 : Int32).toNatClampNeg (-1)))), (q1, .inl (cA, 4, .inl (fun _ => 0))), (q2, .inl (cA, 4, .inl (fun _ => 0))), (q3, .inl (cA, 4, .inl (fun _ => 0))), (q4, .inl (cA, 4, .inl (fun _ => 0))), (q5, .inl (cA, 4, .inl (fun _ => 0))), (q6, .inl (cA, 12, .inl (fun _ => 0)))] := hD
  refine va_putF (D := D) (ci := 0) (v := .ref q6) (ty := (.array .int)) (C := RX0) (T := TX0) (N := 12) hx hb hts hiw tyX0 tyX0_ok nmX0 hown hK hP hD hS 0 rfl rfl 6 (by decide) (hts (.fieldLink RX0 28 "TunedWrens" "framesOfSemitone" "[I") (by decide +kernel)) (fun _ h9 => h9) rfl hin rfl (by decide +kernel) rfl rfl (Nat.le_of_ble_eq_true rfl) dX0_init_67 (fun H locs hP hD hS => ?_)
  have hP : va_P D vwCl [(h, .inr (0, [.ref q0, .ref q1, .ref q2, .ref q3, .ref q4, .ref q5, .ref q6, .int 0, .int 0, .int 0, .int 0, .int 0])), (q0, .inl (cA, 4, .inl (upd (upd (upd (upd (fun _ => 0) (0 : Int32).toNatClampNeg (-1)) (1 : Int32).toNatClampNeg (-1)) (2 : Int32).toNatClampNeg (-1)) (3 : Int32).toNatClampNeg (-1)))), (q1, .inl (cA, 4, .inl (fun _ => 0))), (q2, .inl (cA, 4, .inl (fun _ => 0))), (q3, .inl (cA, 4, .inl (fun _ => 0))), (q4, .inl (cA, 4, .inl (fun _ => 0))), (q5, .inl (cA, 4, .inl (fun _ => 0))), (q6, .inl (cA, 12, .inl (fun _ => 0)))] H := hP
  have hD : va_D (zA N0) [(h, .inr (0, [.ref q0, .ref q1, .ref q2, .ref q3, .ref q4, .ref q5, .ref q6, .int 0, .int 0, .int 0, .int 0, .int 0])), (q0, .inl (cA, 4, .inl (upd (upd (upd (upd (fun _ => 0) (0 : Int32).toNatClampNeg (-1)) (1 : Int32).toNatClampNeg (-1)) (2 : Int32).toNatClampNeg (-1)) (3 : Int32).toNatClampNeg (-1)))), (q1, .inl (cA, 4, .inl (fun _ => 0))), (q2, .inl (cA, 4, .inl (fun _ => 0))), (q3, .inl (cA, 4, .inl (fun _ => 0))), (q4, .inl (cA, 4, .inl (fun _ => 0))), (q5, .inl (cA, 4, .inl (fun _ => 0))), (q6, .inl (cA, 12, .inl (fun _ => 0)))] := hD
  refine lv_aload_n hx hb dX0_init_70 rfl (lv_at hl 0 rfl) ?_
  refine lv_iconst (v := 0) hx hb dX0_init_71 (by decide) ?_
  refine va_put (D := D) (ci := 0) (v := .int 0) (ty := .int) (C := RX0) (T := TX0) (N := 12) hx hb hts hiw tyX0 tyX0_ok nmX0 hown hK hP hD hS 0 rfl rfl 7 (by decide) (hts (.fieldLink RX0 31 "TunedWrens" "scaleKey" "I") (by decide +kernel)) (fun _ h9 => h9) rfl (by decide +kernel) rfl rfl (Nat.le_of_ble_eq_true rfl) dX0_init_72 (fun H locs hP hD hS => ?_)
  have hP : va_P D vwCl [(h, .inr (0, [.ref q0, .ref q1, .ref q2, .ref q3, .ref q4, .ref q5, .ref q6, .int 0, .int 0, .int 0, .int 0, .int 0])), (q0, .inl (cA, 4, .inl (upd (upd (upd (upd (fun _ => 0) (0 : Int32).toNatClampNeg (-1)) (1 : Int32).toNatClampNeg (-1)) (2 : Int32).toNatClampNeg (-1)) (3 : Int32).toNatClampNeg (-1)))), (q1, .inl (cA, 4, .inl (fun _ => 0))), (q2, .inl (cA, 4, .inl (fun _ => 0))), (q3, .inl (cA, 4, .inl (fun _ => 0))), (q4, .inl (cA, 4, .inl (fun _ => 0))), (q5, .inl (cA, 4, .inl (fun _ => 0))), (q6, .inl (cA, 12, .inl (fun _ => 0)))] H := hP
  have hD : va_D (zA N0) [(h, .inr (0, [.ref q0, .ref q1, .ref q2, .ref q3, .ref q4, .ref q5, .ref q6, .int 0, .int 0, .int 0, .int 0, .int 0])), (q0, .inl (cA, 4, .inl (upd (upd (upd (upd (fun _ => 0) (0 : Int32).toNatClampNeg (-1)) (1 : Int32).toNatClampNeg (-1)) (2 : Int32).toNatClampNeg (-1)) (3 : Int32).toNatClampNeg (-1)))), (q1, .inl (cA, 4, .inl (fun _ => 0))), (q2, .inl (cA, 4, .inl (fun _ => 0))), (q3, .inl (cA, 4, .inl (fun _ => 0))), (q4, .inl (cA, 4, .inl (fun _ => 0))), (q5, .inl (cA, 4, .inl (fun _ => 0))), (q6, .inl (cA, 12, .inl (fun _ => 0)))] := hD
  refine lv_aload_n hx hb dX0_init_75 rfl (lv_at hl 0 rfl) ?_
  refine lv_iconst (v := 0) hx hb dX0_init_76 (by decide) ?_
  refine va_put (D := D) (ci := 0) (v := .int 0) (ty := .int) (C := RX0) (T := TX0) (N := 12) hx hb hts hiw tyX0 tyX0_ok nmX0 hown hK hP hD hS 0 rfl rfl 8 (by decide) (hts (.fieldLink RX0 35 "TunedWrens" "scaleMode" "I") (by decide +kernel)) (fun _ h9 => h9) rfl (by decide +kernel) rfl rfl (Nat.le_of_ble_eq_true rfl) dX0_init_77 (fun H locs hP hD hS => ?_)
  have hP : va_P D vwCl [(h, .inr (0, [.ref q0, .ref q1, .ref q2, .ref q3, .ref q4, .ref q5, .ref q6, .int 0, .int 0, .int 0, .int 0, .int 0])), (q0, .inl (cA, 4, .inl (upd (upd (upd (upd (fun _ => 0) (0 : Int32).toNatClampNeg (-1)) (1 : Int32).toNatClampNeg (-1)) (2 : Int32).toNatClampNeg (-1)) (3 : Int32).toNatClampNeg (-1)))), (q1, .inl (cA, 4, .inl (fun _ => 0))), (q2, .inl (cA, 4, .inl (fun _ => 0))), (q3, .inl (cA, 4, .inl (fun _ => 0))), (q4, .inl (cA, 4, .inl (fun _ => 0))), (q5, .inl (cA, 4, .inl (fun _ => 0))), (q6, .inl (cA, 12, .inl (fun _ => 0)))] H := hP
  have hD : va_D (zA N0) [(h, .inr (0, [.ref q0, .ref q1, .ref q2, .ref q3, .ref q4, .ref q5, .ref q6, .int 0, .int 0, .int 0, .int 0, .int 0])), (q0, .inl (cA, 4, .inl (upd (upd (upd (upd (fun _ => 0) (0 : Int32).toNatClampNeg (-1)) (1 : Int32).toNatClampNeg (-1)) (2 : Int32).toNatClampNeg (-1)) (3 : Int32).toNatClampNeg (-1)))), (q1, .inl (cA, 4, .inl (fun _ => 0))), (q2, .inl (cA, 4, .inl (fun _ => 0))), (q3, .inl (cA, 4, .inl (fun _ => 0))), (q4, .inl (cA, 4, .inl (fun _ => 0))), (q5, .inl (cA, 4, .inl (fun _ => 0))), (q6, .inl (cA, 12, .inl (fun _ => 0)))] := hD
  refine lv_aload_n hx hb dX0_init_80 rfl (lv_at hl 0 rfl) ?_
  refine lv_bipush (v := 100) hx hb dX0_init_81 (by decide) ?_
  refine va_put (D := D) (ci := 0) (v := .int 100) (ty := .int) (C := RX0) (T := TX0) (N := 12) hx hb hts hiw tyX0 tyX0_ok nmX0 hown hK hP hD hS 0 rfl rfl 9 (by decide) (hts (.fieldLink RX0 38 "TunedWrens" "nudgeSpeed" "I") (by decide +kernel)) (fun _ h9 => h9) rfl (by decide +kernel) rfl rfl (Nat.le_of_ble_eq_true rfl) dX0_init_83 (fun H locs hP hD hS => ?_)
  have hP : va_P D vwCl [(h, .inr (0, [.ref q0, .ref q1, .ref q2, .ref q3, .ref q4, .ref q5, .ref q6, .int 0, .int 0, .int 100, .int 0, .int 0])), (q0, .inl (cA, 4, .inl (upd (upd (upd (upd (fun _ => 0) (0 : Int32).toNatClampNeg (-1)) (1 : Int32).toNatClampNeg (-1)) (2 : Int32).toNatClampNeg (-1)) (3 : Int32).toNatClampNeg (-1)))), (q1, .inl (cA, 4, .inl (fun _ => 0))), (q2, .inl (cA, 4, .inl (fun _ => 0))), (q3, .inl (cA, 4, .inl (fun _ => 0))), (q4, .inl (cA, 4, .inl (fun _ => 0))), (q5, .inl (cA, 4, .inl (fun _ => 0))), (q6, .inl (cA, 12, .inl (fun _ => 0)))] H := hP
  have hD : va_D (zA N0) [(h, .inr (0, [.ref q0, .ref q1, .ref q2, .ref q3, .ref q4, .ref q5, .ref q6, .int 0, .int 0, .int 100, .int 0, .int 0])), (q0, .inl (cA, 4, .inl (upd (upd (upd (upd (fun _ => 0) (0 : Int32).toNatClampNeg (-1)) (1 : Int32).toNatClampNeg (-1)) (2 : Int32).toNatClampNeg (-1)) (3 : Int32).toNatClampNeg (-1)))), (q1, .inl (cA, 4, .inl (fun _ => 0))), (q2, .inl (cA, 4, .inl (fun _ => 0))), (q3, .inl (cA, 4, .inl (fun _ => 0))), (q4, .inl (cA, 4, .inl (fun _ => 0))), (q5, .inl (cA, 4, .inl (fun _ => 0))), (q6, .inl (cA, 12, .inl (fun _ => 0)))] := hD
  refine lv_aload_n hx hb dX0_init_86 rfl (lv_at hl 0 rfl) ?_
  refine lv_bipush (v := 60) hx hb dX0_init_87 (by decide) ?_
  refine va_put (D := D) (ci := 0) (v := .int 60) (ty := .int) (C := RX0) (T := TX0) (N := 12) hx hb hts hiw tyX0 tyX0_ok nmX0 hown hK hP hD hS 0 rfl rfl 10 (by decide) (hts (.fieldLink RX0 41 "TunedWrens" "rungLeash" "I") (by decide +kernel)) (fun _ h9 => h9) rfl (by decide +kernel) rfl rfl (Nat.le_of_ble_eq_true rfl) dX0_init_89 (fun H locs hP hD hS => ?_)
  have hP : va_P D vwCl [(h, .inr (0, [.ref q0, .ref q1, .ref q2, .ref q3, .ref q4, .ref q5, .ref q6, .int 0, .int 0, .int 100, .int 60, .int 0])), (q0, .inl (cA, 4, .inl (upd (upd (upd (upd (fun _ => 0) (0 : Int32).toNatClampNeg (-1)) (1 : Int32).toNatClampNeg (-1)) (2 : Int32).toNatClampNeg (-1)) (3 : Int32).toNatClampNeg (-1)))), (q1, .inl (cA, 4, .inl (fun _ => 0))), (q2, .inl (cA, 4, .inl (fun _ => 0))), (q3, .inl (cA, 4, .inl (fun _ => 0))), (q4, .inl (cA, 4, .inl (fun _ => 0))), (q5, .inl (cA, 4, .inl (fun _ => 0))), (q6, .inl (cA, 12, .inl (fun _ => 0)))] H := hP
  have hD : va_D (zA N0) [(h, .inr (0, [.ref q0, .ref q1, .ref q2, .ref q3, .ref q4, .ref q5, .ref q6, .int 0, .int 0, .int 100, .int 60, .int 0])), (q0, .inl (cA, 4, .inl (upd (upd (upd (upd (fun _ => 0) (0 : Int32).toNatClampNeg (-1)) (1 : Int32).toNatClampNeg (-1)) (2 : Int32).toNatClampNeg (-1)) (3 : Int32).toNatClampNeg (-1)))), (q1, .inl (cA, 4, .inl (fun _ => 0))), (q2, .inl (cA, 4, .inl (fun _ => 0))), (q3, .inl (cA, 4, .inl (fun _ => 0))), (q4, .inl (cA, 4, .inl (fun _ => 0))), (q5, .inl (cA, 4, .inl (fun _ => 0))), (q6, .inl (cA, 12, .inl (fun _ => 0)))] := hD
  refine lv_aload_n hx hb dX0_init_92 rfl (lv_at hl 0 rfl) ?_
  refine lv_sipush (v := 400) hx hb dX0_init_93 (by decide) ?_
  refine va_put (D := D) (ci := 0) (v := .int 400) (ty := .int) (C := RX0) (T := TX0) (N := 12) hx hb hts hiw tyX0 tyX0_ok nmX0 hown hK hP hD hS 0 rfl rfl 11 (by decide) (hts (.fieldLink RX0 44 "TunedWrens" "leapGlide" "I") (by decide +kernel)) (fun _ h9 => h9) rfl (by decide +kernel) rfl rfl (Nat.le_of_ble_eq_true rfl) dX0_init_96 (fun H locs hP hD hS => ?_)
  have hP : va_P D vwCl [(h, .inr (0, [.ref q0, .ref q1, .ref q2, .ref q3, .ref q4, .ref q5, .ref q6, .int 0, .int 0, .int 100, .int 60, .int 400])), (q0, .inl (cA, 4, .inl (upd (upd (upd (upd (fun _ => 0) (0 : Int32).toNatClampNeg (-1)) (1 : Int32).toNatClampNeg (-1)) (2 : Int32).toNatClampNeg (-1)) (3 : Int32).toNatClampNeg (-1)))), (q1, .inl (cA, 4, .inl (fun _ => 0))), (q2, .inl (cA, 4, .inl (fun _ => 0))), (q3, .inl (cA, 4, .inl (fun _ => 0))), (q4, .inl (cA, 4, .inl (fun _ => 0))), (q5, .inl (cA, 4, .inl (fun _ => 0))), (q6, .inl (cA, 12, .inl (fun _ => 0)))] H := hP
  have hD : va_D (zA N0) [(h, .inr (0, [.ref q0, .ref q1, .ref q2, .ref q3, .ref q4, .ref q5, .ref q6, .int 0, .int 0, .int 100, .int 60, .int 400])), (q0, .inl (cA, 4, .inl (upd (upd (upd (upd (fun _ => 0) (0 : Int32).toNatClampNeg (-1)) (1 : Int32).toNatClampNeg (-1)) (2 : Int32).toNatClampNeg (-1)) (3 : Int32).toNatClampNeg (-1)))), (q1, .inl (cA, 4, .inl (fun _ => 0))), (q2, .inl (cA, 4, .inl (fun _ => 0))), (q3, .inl (cA, 4, .inl (fun _ => 0))), (q4, .inl (cA, 4, .inl (fun _ => 0))), (q5, .inl (cA, 4, .inl (fun _ => 0))), (q6, .inl (cA, 12, .inl (fun _ => 0)))] := hD
  exact W.vret hx hb hr (fun t ht hW => ⟨⟨(), rfl, trivial, ⟨zAd q0 q1 q2 q3 q4 q5 q6, cA, ⟨by rw [ht]; exact hP, hD⟩, va_K.moved hW.alike hK⟩⟩, hS.F ht⟩) hS.2.2 dX0_init_99

set_option maxHeartbeats 4000000 in
set_option maxRecDepth 100000 in
theorem c_X0_init2 (l : Launch) (D : va_G) (N0 h hx : Nat) (dx : Nat → Nat) (cA : ClassId) : Met l yX0_init wsX0_init ({ frames := 1, cells := 7, slots := 36, locals := 12 }) (va_Pc [.ref h] (zPre0 D N0 [(cA, .int)] ([(h, .inr (0, [.null, .null, .null, .null, .null, .null, .null, .int 0, .int 0, .int 0, .int 0, .int 0]))] ++ (wX hx dx cA zI cI) ++ []))) (va_Qv (fun (_ : Unit) => True) (fun _ t => ∃ (d : Nat → Nat), zPost D N0 (wX h d cA zI cI ++ wX hx dx cA zI cI) t) (zA N0)) 7 36 (zA N0) := by
  refine Met.ofW (cc := cX0_init) (maxL := 1) (ret := none) (by decide) rfl ?_
  intro pr e s m ag below meth cd s₁ B hml hv
  obtain ⟨rfl, hN, hP, hD, hK⟩ := hv
  have hxx := B.exec
  have hb := B.bytes
  have hr := B.returns
  have hts := atoms_spec (ws := wsX0_init) B.pre
  have hown : s.vm.findClass RX0 = some m.cls := findClass_of_methodNamed B.named
  have hlocks := B.notSynchronized
  have hin : meth.name = "<init>" := (name_of_methodNamed B.named B.method).1
  have hS : va_S (zA N0) s.heap s.heap [] := va_S.rf
  have hA : ∀ q : Nat, s.heap.size ≤ q → zA N0 q := fun q h9 => Nat.le_trans hN h9
  have hiw : ∀ w ∈ u_ws RX0 TX0 12, w ∈ wsX0_init := by decide +kernel
  have hl := lv_entry ([.ref h]) (n := 1) (Nat.le_of_ble_eq_true rfl)
  rw [lg_entry_eq]
  generalize (lg_sl ([.ref h]) ++ List.replicate (1 - (lg_sl ([.ref h])).length) Slot.unset).toArray = ls at hl ⊢
  have hl : lv_has ls 1 [(0, .ref h)] := hl
  refine lv_aload_n hxx hb dX0_init_0 rfl (lv_at hl 0 rfl) ?_
  refine W.objInit hxx hb hown (hts (.methodLink RX0 1 objectInit) (by decide +kernel)) (hts (.instanceMethod objectInit) (by decide +kernel)) (hts (.code objectInit ⟨#[0xb1]⟩ 1 none) (by decide +kernel)) rfl (by rw [hml]; exact hl.1) rfl dX0_init_1 (Nat.le_of_ble_eq_true rfl) (Nat.le_of_ble_eq_true rfl) ?_
  refine W.eq (g2 := F0 m 4 ls []) rfl ?_
  refine lv_aload_n hxx hb dX0_init_4 rfl (lv_at hl 0 rfl) ?_
  refine lv_iconst (v := 4) hxx hb dX0_init_5 (by decide) ?_
  refine va_newa (atype := .int) (ty := .int) (N' := 4) (a0 := (4, .inl (fun _ => 0))) hxx hb (hts (.arrayClass .int) (by decide +kernel)) rfl hK hP hD hS hA (fun _ => rfl) (by decide) (by decide) (by decide) (Nat.le_of_ble_eq_true rfl) (Nat.le_of_ble_eq_true rfl) dX0_init_6 (fun q0 cB H hK hP hD hS => ?_)
  obtain rfl : cA = cB := (zcA hK (i := 0) (j := 1) rfl rfl).symm
  have hK : va_K D vwCl [(cA, .int)] s := hK.sub [0] rfl
  have hP : va_P D vwCl ([(h, .inr (0, [.null, .null, .null, .null, .null, .null, .null, .int 0, .int 0, .int 0, .int 0, .int 0]))] ++ (wX hx dx cA zI cI) ++ [(q0, .inl (cA, 4, .inl (fun _ => 0)))]) H := hP
  have hD : va_D (zA N0) ([(h, .inr (0, [.null, .null, .null, .null, .null, .null, .null, .int 0, .int 0, .int 0, .int 0, .int 0]))] ++ (wX hx dx cA zI cI) ++ [(q0, .inl (cA, 4, .inl (fun _ => 0)))]) := hD
  refine lv_dup hxx hb dX0_init_8 rfl ?_
  refine lv_iconst (v := 0) hxx hb dX0_init_9 (by decide) ?_
  refine lv_iconst (v := (-1)) hxx hb dX0_init_10 (by decide) ?_
  refine va_iast hxx hb hK hP hD hS 9 0 rfl rfl (vp_in_nI (n := 0) (by decide) (by decide)) dX0_init_11 (fun H locs hP hD hS => ?_)
  have hP : va_P D vwCl ([(h, .inr (0, [.null, .null, .null, .null, .null, .null, .null, .int 0, .int 0, .int 0, .int 0, .int 0]))] ++ (wX hx dx cA zI cI) ++ [(q0, .inl (cA, 4, .inl (upd (fun _ => 0) (0 : Int32).toNatClampNeg (-1))))]) H := hP
  have hD : va_D (zA N0) ([(h, .inr (0, [.null, .null, .null, .null, .null, .null, .null, .int 0, .int 0, .int 0, .int 0, .int 0]))] ++ (wX hx dx cA zI cI) ++ [(q0, .inl (cA, 4, .inl (upd (fun _ => 0) (0 : Int32).toNatClampNeg (-1))))]) := hD
  refine lv_dup hxx hb dX0_init_12 rfl ?_
  refine lv_iconst (v := 1) hxx hb dX0_init_13 (by decide) ?_
  refine lv_iconst (v := (-1)) hxx hb dX0_init_14 (by decide) ?_
  refine va_iast hxx hb hK hP hD hS 9 0 rfl rfl (vp_in_nI (n := 1) (by decide) (by decide)) dX0_init_15 (fun H locs hP hD hS => ?_)
  have hP : va_P D vwCl ([(h, .inr (0, [.null, .null, .null, .null, .null, .null, .null, .int 0, .int 0, .int 0, .int 0, .int 0]))] ++ (wX hx dx cA zI cI) ++ [(q0, .inl (cA, 4, .inl (upd (upd (fun _ => 0) (0 : Int32).toNatClampNeg (-1)) (1 : Int32).toNatClampNeg (-1))))]) H := hP
  have hD : va_D (zA N0) ([(h, .inr (0, [.null, .null, .null, .null, .null, .null, .null, .int 0, .int 0, .int 0, .int 0, .int 0]))] ++ (wX hx dx cA zI cI) ++ [(q0, .inl (cA, 4, .inl (upd (upd (fun _ => 0) (0 : Int32).toNatClampNeg (-1)) (1 : Int32).toNatClampNeg (-1))))]) := hD
  refine lv_dup hxx hb dX0_init_16 rfl ?_
  refine lv_iconst (v := 2) hxx hb dX0_init_17 (by decide) ?_
  refine lv_iconst (v := (-1)) hxx hb dX0_init_18 (by decide) ?_
  refine va_iast hxx hb hK hP hD hS 9 0 rfl rfl (vp_in_nI (n := 2) (by decide) (by decide)) dX0_init_19 (fun H locs hP hD hS => ?_)
  have hP : va_P D vwCl ([(h, .inr (0, [.null, .null, .null, .null, .null, .null, .null, .int 0, .int 0, .int 0, .int 0, .int 0]))] ++ (wX hx dx cA zI cI) ++ [(q0, .inl (cA, 4, .inl (upd (upd (upd (fun _ => 0) (0 : Int32).toNatClampNeg (-1)) (1 : Int32).toNatClampNeg (-1)) (2 : Int32).toNatClampNeg (-1))))]) H := hP
  have hD : va_D (zA N0) ([(h, .inr (0, [.null, .null, .null, .null, .null, .null, .null, .int 0, .int 0, .int 0, .int 0, .int 0]))] ++ (wX hx dx cA zI cI) ++ [(q0, .inl (cA, 4, .inl (upd (upd (upd (fun _ => 0) (0 : Int32).toNatClampNeg (-1)) (1 : Int32).toNatClampNeg (-1)) (2 : Int32).toNatClampNeg (-1))))]) := hD
  refine lv_dup hxx hb dX0_init_20 rfl ?_
  refine lv_iconst (v := 3) hxx hb dX0_init_21 (by decide) ?_
  refine lv_iconst (v := (-1)) hxx hb dX0_init_22 (by decide) ?_
  refine va_iast hxx hb hK hP hD hS 9 0 rfl rfl (vp_in_nI (n := 3) (by decide) (by decide)) dX0_init_23 (fun H locs hP hD hS => ?_)
  have hP : va_P D vwCl ([(h, .inr (0, [.null, .null, .null, .null, .null, .null, .null, .int 0, .int 0, .int 0, .int 0, .int 0]))] ++ (wX hx dx cA zI cI) ++ [(q0, .inl (cA, 4, .inl (upd (upd (upd (upd (fun _ => 0) (0 : Int32).toNatClampNeg (-1)) (1 : Int32).toNatClampNeg (-1)) (2 : Int32).toNatClampNeg (-1)) (3 : Int32).toNatClampNeg (-1))))]) H := hP
  have hD : va_D (zA N0) ([(h, .inr (0, [.null, .null, .null, .null, .null, .null, .null, .int 0, .int 0, .int 0, .int 0, .int 0]))] ++ (wX hx dx cA zI cI) ++ [(q0, .inl (cA, 4, .inl (upd (upd (upd (upd (fun _ => 0) (0 : Int32).toNatClampNeg (-1)) (1 : Int32).toNatClampNeg (-1)) (2 : Int32).toNatClampNeg (-1)) (3 : Int32).toNatClampNeg (-1))))]) := hD
  refine va_putF (D := D) (ci := 0) (v := .ref q0) (ty := (.array .int)) (C := RX0) (T := TX0) (N := 12) hxx hb hts hiw tyX0 tyX0_ok nmX0 hown hK hP hD hS 0 rfl rfl 0 (by decide) (hts (.fieldLink RX0 9 "TunedWrens" "rungOfWren" "[I") (by decide +kernel)) (fun _ h9 => h9) rfl hin rfl (by decide +kernel) rfl rfl (Nat.le_of_ble_eq_true rfl) dX0_init_24 (fun H locs hP hD hS => ?_)
  have hP : va_P D vwCl ([(h, .inr (0, [.ref q0, .null, .null, .null, .null, .null, .null, .int 0, .int 0, .int 0, .int 0, .int 0]))] ++ (wX hx dx cA zI cI) ++ [(q0, .inl (cA, 4, .inl (upd (upd (upd (upd (fun _ => 0) (0 : Int32).toNatClampNeg (-1)) (1 : Int32).toNatClampNeg (-1)) (2 : Int32).toNatClampNeg (-1)) (3 : Int32).toNatClampNeg (-1))))]) H := hP
  have hD : va_D (zA N0) ([(h, .inr (0, [.ref q0, .null, .null, .null, .null, .null, .null, .int 0, .int 0, .int 0, .int 0, .int 0]))] ++ (wX hx dx cA zI cI) ++ [(q0, .inl (cA, 4, .inl (upd (upd (upd (upd (fun _ => 0) (0 : Int32).toNatClampNeg (-1)) (1 : Int32).toNatClampNeg (-1)) (2 : Int32).toNatClampNeg (-1)) (3 : Int32).toNatClampNeg (-1))))]) := hD
  refine lv_aload_n hxx hb dX0_init_27 rfl (lv_at hl 0 rfl) ?_
  refine lv_iconst (v := 4) hxx hb dX0_init_28 (by decide) ?_
  refine va_newa (atype := .int) (ty := .int) (N' := 4) (a0 := (4, .inl (fun _ => 0))) hxx hb (hts (.arrayClass .int) (by decide +kernel)) rfl hK hP hD hS hA (fun _ => rfl) (by decide) (by decide) (by decide) (Nat.le_of_ble_eq_true rfl) (Nat.le_of_ble_eq_true rfl) dX0_init_29 (fun q1 cB H hK hP hD hS => ?_)
  obtain rfl : cA = cB := (zcA hK (i := 0) (j := 1) rfl rfl).symm
  have hK : va_K D vwCl [(cA, .int)] s := hK.sub [0] rfl
  have hP : va_P D vwCl ([(h, .inr (0, [.ref q0, .null, .null, .null, .null, .null, .null, .int 0, .int 0, .int 0, .int 0, .int 0]))] ++ (wX hx dx cA zI cI) ++ [(q0, .inl (cA, 4, .inl (upd (upd (upd (upd (fun _ => 0) (0 : Int32).toNatClampNeg (-1)) (1 : Int32).toNatClampNeg (-1)) (2 : Int32).toNatClampNeg (-1)) (3 : Int32).toNatClampNeg (-1)))), (q1, .inl (cA, 4, .inl (fun _ => 0)))]) H := hP
  have hD : va_D (zA N0) ([(h, .inr (0, [.ref q0, .null, .null, .null, .null, .null, .null, .int 0, .int 0, .int 0, .int 0, .int 0]))] ++ (wX hx dx cA zI cI) ++ [(q0, .inl (cA, 4, .inl (upd (upd (upd (upd (fun _ => 0) (0 : Int32).toNatClampNeg (-1)) (1 : Int32).toNatClampNeg (-1)) (2 : Int32).toNatClampNeg (-1)) (3 : Int32).toNatClampNeg (-1)))), (q1, .inl (cA, 4, .inl (fun _ => 0)))]) := hD
  refine va_putF (D := D) (ci := 0) (v := .ref q1) (ty := (.array .int)) (C := RX0) (T := TX0) (N := 12) hxx hb hts hiw tyX0 tyX0_ok nmX0 hown hK hP hD hS 0 rfl rfl 1 (by decide) (hts (.fieldLink RX0 13 "TunedWrens" "nudgeOfWren" "[I") (by decide +kernel)) (fun _ h9 => h9) rfl hin rfl (by decide +kernel) rfl rfl (Nat.le_of_ble_eq_true rfl) dX0_init_31 (fun H locs hP hD hS => ?_)
  have hP : va_P D vwCl ([(h, .inr (0, [.ref q0, .ref q1, .null, .null, .null, .null, .null, .int 0, .int 0, .int 0, .int 0, .int 0]))] ++ (wX hx dx cA zI cI) ++ [(q0, .inl (cA, 4, .inl (upd (upd (upd (upd (fun _ => 0) (0 : Int32).toNatClampNeg (-1)) (1 : Int32).toNatClampNeg (-1)) (2 : Int32).toNatClampNeg (-1)) (3 : Int32).toNatClampNeg (-1)))), (q1, .inl (cA, 4, .inl (fun _ => 0)))]) H := hP
  have hD : va_D (zA N0) ([(h, .inr (0, [.ref q0, .ref q1, .null, .null, .null, .null, .null, .int 0, .int 0, .int 0, .int 0, .int 0]))] ++ (wX hx dx cA zI cI) ++ [(q0, .inl (cA, 4, .inl (upd (upd (upd (upd (fun _ => 0) (0 : Int32).toNatClampNeg (-1)) (1 : Int32).toNatClampNeg (-1)) (2 : Int32).toNatClampNeg (-1)) (3 : Int32).toNatClampNeg (-1)))), (q1, .inl (cA, 4, .inl (fun _ => 0)))]) := hD
  refine lv_aload_n hxx hb dX0_init_34 rfl (lv_at hl 0 rfl) ?_
  refine lv_iconst (v := 4) hxx hb dX0_init_35 (by decide) ?_
  refine va_newa (atype := .int) (ty := .int) (N' := 4) (a0 := (4, .inl (fun _ => 0))) hxx hb (hts (.arrayClass .int) (by decide +kernel)) rfl hK hP hD hS hA (fun _ => rfl) (by decide) (by decide) (by decide) (Nat.le_of_ble_eq_true rfl) (Nat.le_of_ble_eq_true rfl) dX0_init_36 (fun q2 cB H hK hP hD hS => ?_)
  obtain rfl : cA = cB := (zcA hK (i := 0) (j := 1) rfl rfl).symm
  have hK : va_K D vwCl [(cA, .int)] s := hK.sub [0] rfl
  have hP : va_P D vwCl ([(h, .inr (0, [.ref q0, .ref q1, .null, .null, .null, .null, .null, .int 0, .int 0, .int 0, .int 0, .int 0]))] ++ (wX hx dx cA zI cI) ++ [(q0, .inl (cA, 4, .inl (upd (upd (upd (upd (fun _ => 0) (0 : Int32).toNatClampNeg (-1)) (1 : Int32).toNatClampNeg (-1)) (2 : Int32).toNatClampNeg (-1)) (3 : Int32).toNatClampNeg (-1)))), (q1, .inl (cA, 4, .inl (fun _ => 0))), (q2, .inl (cA, 4, .inl (fun _ => 0)))]) H := hP
  have hD : va_D (zA N0) ([(h, .inr (0, [.ref q0, .ref q1, .null, .null, .null, .null, .null, .int 0, .int 0, .int 0, .int 0, .int 0]))] ++ (wX hx dx cA zI cI) ++ [(q0, .inl (cA, 4, .inl (upd (upd (upd (upd (fun _ => 0) (0 : Int32).toNatClampNeg (-1)) (1 : Int32).toNatClampNeg (-1)) (2 : Int32).toNatClampNeg (-1)) (3 : Int32).toNatClampNeg (-1)))), (q1, .inl (cA, 4, .inl (fun _ => 0))), (q2, .inl (cA, 4, .inl (fun _ => 0)))]) := hD
  refine va_putF (D := D) (ci := 0) (v := .ref q2) (ty := (.array .int)) (C := RX0) (T := TX0) (N := 12) hxx hb hts hiw tyX0 tyX0_ok nmX0 hown hK hP hD hS 0 rfl rfl 2 (by decide) (hts (.fieldLink RX0 16 "TunedWrens" "framesOfWren" "[I") (by decide +kernel)) (fun _ h9 => h9) rfl hin rfl (by decide +kernel) rfl rfl (Nat.le_of_ble_eq_true rfl) dX0_init_38 (fun H locs hP hD hS => ?_)
  have hP : va_P D vwCl ([(h, .inr (0, [.ref q0, .ref q1, .ref q2, .null, .null, .null, .null, .int 0, .int 0, .int 0, .int 0, .int 0]))] ++ (wX hx dx cA zI cI) ++ [(q0, .inl (cA, 4, .inl (upd (upd (upd (upd (fun _ => 0) (0 : Int32).toNatClampNeg (-1)) (1 : Int32).toNatClampNeg (-1)) (2 : Int32).toNatClampNeg (-1)) (3 : Int32).toNatClampNeg (-1)))), (q1, .inl (cA, 4, .inl (fun _ => 0))), (q2, .inl (cA, 4, .inl (fun _ => 0)))]) H := hP
  have hD : va_D (zA N0) ([(h, .inr (0, [.ref q0, .ref q1, .ref q2, .null, .null, .null, .null, .int 0, .int 0, .int 0, .int 0, .int 0]))] ++ (wX hx dx cA zI cI) ++ [(q0, .inl (cA, 4, .inl (upd (upd (upd (upd (fun _ => 0) (0 : Int32).toNatClampNeg (-1)) (1 : Int32).toNatClampNeg (-1)) (2 : Int32).toNatClampNeg (-1)) (3 : Int32).toNatClampNeg (-1)))), (q1, .inl (cA, 4, .inl (fun _ => 0))), (q2, .inl (cA, 4, .inl (fun _ => 0)))]) := hD
  refine lv_aload_n hxx hb dX0_init_41 rfl (lv_at hl 0 rfl) ?_
  refine lv_iconst (v := 4) hxx hb dX0_init_42 (by decide) ?_
  refine va_newa (atype := .int) (ty := .int) (N' := 4) (a0 := (4, .inl (fun _ => 0))) hxx hb (hts (.arrayClass .int) (by decide +kernel)) rfl hK hP hD hS hA (fun _ => rfl) (by decide) (by decide) (by decide) (Nat.le_of_ble_eq_true rfl) (Nat.le_of_ble_eq_true rfl) dX0_init_43 (fun q3 cB H hK hP hD hS => ?_)
  obtain rfl : cA = cB := (zcA hK (i := 0) (j := 1) rfl rfl).symm
  have hK : va_K D vwCl [(cA, .int)] s := hK.sub [0] rfl
  have hP : va_P D vwCl ([(h, .inr (0, [.ref q0, .ref q1, .ref q2, .null, .null, .null, .null, .int 0, .int 0, .int 0, .int 0, .int 0]))] ++ (wX hx dx cA zI cI) ++ [(q0, .inl (cA, 4, .inl (upd (upd (upd (upd (fun _ => 0) (0 : Int32).toNatClampNeg (-1)) (1 : Int32).toNatClampNeg (-1)) (2 : Int32).toNatClampNeg (-1)) (3 : Int32).toNatClampNeg (-1)))), (q1, .inl (cA, 4, .inl (fun _ => 0))), (q2, .inl (cA, 4, .inl (fun _ => 0))), (q3, .inl (cA, 4, .inl (fun _ => 0)))]) H := hP
  have hD : va_D (zA N0) ([(h, .inr (0, [.ref q0, .ref q1, .ref q2, .null, .null, .null, .null, .int 0, .int 0, .int 0, .int 0, .int 0]))] ++ (wX hx dx cA zI cI) ++ [(q0, .inl (cA, 4, .inl (upd (upd (upd (upd (fun _ => 0) (0 : Int32).toNatClampNeg (-1)) (1 : Int32).toNatClampNeg (-1)) (2 : Int32).toNatClampNeg (-1)) (3 : Int32).toNatClampNeg (-1)))), (q1, .inl (cA, 4, .inl (fun _ => 0))), (q2, .inl (cA, 4, .inl (fun _ => 0))), (q3, .inl (cA, 4, .inl (fun _ => 0)))]) := hD
  refine va_putF (D := D) (ci := 0) (v := .ref q3) (ty := (.array .int)) (C := RX0) (T := TX0) (N := 12) hxx hb hts hiw tyX0 tyX0_ok nmX0 hown hK hP hD hS 0 rfl rfl 3 (by decide) (hts (.fieldLink RX0 19 "TunedWrens" "changesOfWren" "[I") (by decide +kernel)) (fun _ h9 => h9) rfl hin rfl (by decide +kernel) rfl rfl (Nat.le_of_ble_eq_true rfl) dX0_init_45 (fun H locs hP hD hS => ?_)
  have hP : va_P D vwCl ([(h, .inr (0, [.ref q0, .ref q1, .ref q2, .ref q3, .null, .null, .null, .int 0, .int 0, .int 0, .int 0, .int 0]))] ++ (wX hx dx cA zI cI) ++ [(q0, .inl (cA, 4, .inl (upd (upd (upd (upd (fun _ => 0) (0 : Int32).toNatClampNeg (-1)) (1 : Int32).toNatClampNeg (-1)) (2 : Int32).toNatClampNeg (-1)) (3 : Int32).toNatClampNeg (-1)))), (q1, .inl (cA, 4, .inl (fun _ => 0))), (q2, .inl (cA, 4, .inl (fun _ => 0))), (q3, .inl (cA, 4, .inl (fun _ => 0)))]) H := hP
  have hD : va_D (zA N0) ([(h, .inr (0, [.ref q0, .ref q1, .ref q2, .ref q3, .null, .null, .null, .int 0, .int 0, .int 0, .int 0, .int 0]))] ++ (wX hx dx cA zI cI) ++ [(q0, .inl (cA, 4, .inl (upd (upd (upd (upd (fun _ => 0) (0 : Int32).toNatClampNeg (-1)) (1 : Int32).toNatClampNeg (-1)) (2 : Int32).toNatClampNeg (-1)) (3 : Int32).toNatClampNeg (-1)))), (q1, .inl (cA, 4, .inl (fun _ => 0))), (q2, .inl (cA, 4, .inl (fun _ => 0))), (q3, .inl (cA, 4, .inl (fun _ => 0)))]) := hD
  refine lv_aload_n hxx hb dX0_init_48 rfl (lv_at hl 0 rfl) ?_
  refine lv_iconst (v := 4) hxx hb dX0_init_49 (by decide) ?_
  refine va_newa (atype := .int) (ty := .int) (N' := 4) (a0 := (4, .inl (fun _ => 0))) hxx hb (hts (.arrayClass .int) (by decide +kernel)) rfl hK hP hD hS hA (fun _ => rfl) (by decide) (by decide) (by decide) (Nat.le_of_ble_eq_true rfl) (Nat.le_of_ble_eq_true rfl) dX0_init_50 (fun q4 cB H hK hP hD hS => ?_)
  obtain rfl : cA = cB := (zcA hK (i := 0) (j := 1) rfl rfl).symm
  have hK : va_K D vwCl [(cA, .int)] s := hK.sub [0] rfl
  have hP : va_P D vwCl ([(h, .inr (0, [.ref q0, .ref q1, .ref q2, .ref q3, .null, .null, .null, .int 0, .int 0, .int 0, .int 0, .int 0]))] ++ (wX hx dx cA zI cI) ++ [(q0, .inl (cA, 4, .inl (upd (upd (upd (upd (fun _ => 0) (0 : Int32).toNatClampNeg (-1)) (1 : Int32).toNatClampNeg (-1)) (2 : Int32).toNatClampNeg (-1)) (3 : Int32).toNatClampNeg (-1)))), (q1, .inl (cA, 4, .inl (fun _ => 0))), (q2, .inl (cA, 4, .inl (fun _ => 0))), (q3, .inl (cA, 4, .inl (fun _ => 0))), (q4, .inl (cA, 4, .inl (fun _ => 0)))]) H := hP
  have hD : va_D (zA N0) ([(h, .inr (0, [.ref q0, .ref q1, .ref q2, .ref q3, .null, .null, .null, .int 0, .int 0, .int 0, .int 0, .int 0]))] ++ (wX hx dx cA zI cI) ++ [(q0, .inl (cA, 4, .inl (upd (upd (upd (upd (fun _ => 0) (0 : Int32).toNatClampNeg (-1)) (1 : Int32).toNatClampNeg (-1)) (2 : Int32).toNatClampNeg (-1)) (3 : Int32).toNatClampNeg (-1)))), (q1, .inl (cA, 4, .inl (fun _ => 0))), (q2, .inl (cA, 4, .inl (fun _ => 0))), (q3, .inl (cA, 4, .inl (fun _ => 0))), (q4, .inl (cA, 4, .inl (fun _ => 0)))]) := hD
  refine va_putF (D := D) (ci := 0) (v := .ref q4) (ty := (.array .int)) (C := RX0) (T := TX0) (N := 12) hxx hb hts hiw tyX0 tyX0_ok nmX0 hown hK hP hD hS 0 rfl rfl 4 (by decide) (hts (.fieldLink RX0 22 "TunedWrens" "leapsOfWren" "[I") (by decide +kernel)) (fun _ h9 => h9) rfl hin rfl (by decide +kernel) rfl rfl (Nat.le_of_ble_eq_true rfl) dX0_init_52 (fun H locs hP hD hS => ?_)
  have hP : va_P D vwCl ([(h, .inr (0, [.ref q0, .ref q1, .ref q2, .ref q3, .ref q4, .null, .null, .int 0, .int 0, .int 0, .int 0, .int 0]))] ++ (wX hx dx cA zI cI) ++ [(q0, .inl (cA, 4, .inl (upd (upd (upd (upd (fun _ => 0) (0 : Int32).toNatClampNeg (-1)) (1 : Int32).toNatClampNeg (-1)) (2 : Int32).toNatClampNeg (-1)) (3 : Int32).toNatClampNeg (-1)))), (q1, .inl (cA, 4, .inl (fun _ => 0))), (q2, .inl (cA, 4, .inl (fun _ => 0))), (q3, .inl (cA, 4, .inl (fun _ => 0))), (q4, .inl (cA, 4, .inl (fun _ => 0)))]) H := hP
  have hD : va_D (zA N0) ([(h, .inr (0, [.ref q0, .ref q1, .ref q2, .ref q3, .ref q4, .null, .null, .int 0, .int 0, .int 0, .int 0, .int 0]))] ++ (wX hx dx cA zI cI) ++ [(q0, .inl (cA, 4, .inl (upd (upd (upd (upd (fun _ => 0) (0 : Int32).toNatClampNeg (-1)) (1 : Int32).toNatClampNeg (-1)) (2 : Int32).toNatClampNeg (-1)) (3 : Int32).toNatClampNeg (-1)))), (q1, .inl (cA, 4, .inl (fun _ => 0))), (q2, .inl (cA, 4, .inl (fun _ => 0))), (q3, .inl (cA, 4, .inl (fun _ => 0))), (q4, .inl (cA, 4, .inl (fun _ => 0)))]) := hD
  refine lv_aload_n hxx hb dX0_init_55 rfl (lv_at hl 0 rfl) ?_
  refine lv_iconst (v := 4) hxx hb dX0_init_56 (by decide) ?_
  refine va_newa (atype := .int) (ty := .int) (N' := 4) (a0 := (4, .inl (fun _ => 0))) hxx hb (hts (.arrayClass .int) (by decide +kernel)) rfl hK hP hD hS hA (fun _ => rfl) (by decide) (by decide) (by decide) (Nat.le_of_ble_eq_true rfl) (Nat.le_of_ble_eq_true rfl) dX0_init_57 (fun q5 cB H hK hP hD hS => ?_)
  obtain rfl : cA = cB := (zcA hK (i := 0) (j := 1) rfl rfl).symm
  have hK : va_K D vwCl [(cA, .int)] s := hK.sub [0] rfl
  have hP : va_P D vwCl ([(h, .inr (0, [.ref q0, .ref q1, .ref q2, .ref q3, .ref q4, .null, .null, .int 0, .int 0, .int 0, .int 0, .int 0]))] ++ (wX hx dx cA zI cI) ++ [(q0, .inl (cA, 4, .inl (upd (upd (upd (upd (fun _ => 0) (0 : Int32).toNatClampNeg (-1)) (1 : Int32).toNatClampNeg (-1)) (2 : Int32).toNatClampNeg (-1)) (3 : Int32).toNatClampNeg (-1)))), (q1, .inl (cA, 4, .inl (fun _ => 0))), (q2, .inl (cA, 4, .inl (fun _ => 0))), (q3, .inl (cA, 4, .inl (fun _ => 0))), (q4, .inl (cA, 4, .inl (fun _ => 0))), (q5, .inl (cA, 4, .inl (fun _ => 0)))]) H := hP
  have hD : va_D (zA N0) ([(h, .inr (0, [.ref q0, .ref q1, .ref q2, .ref q3, .ref q4, .null, .null, .int 0, .int 0, .int 0, .int 0, .int 0]))] ++ (wX hx dx cA zI cI) ++ [(q0, .inl (cA, 4, .inl (upd (upd (upd (upd (fun _ => 0) (0 : Int32).toNatClampNeg (-1)) (1 : Int32).toNatClampNeg (-1)) (2 : Int32).toNatClampNeg (-1)) (3 : Int32).toNatClampNeg (-1)))), (q1, .inl (cA, 4, .inl (fun _ => 0))), (q2, .inl (cA, 4, .inl (fun _ => 0))), (q3, .inl (cA, 4, .inl (fun _ => 0))), (q4, .inl (cA, 4, .inl (fun _ => 0))), (q5, .inl (cA, 4, .inl (fun _ => 0)))]) := hD
  refine va_putF (D := D) (ci := 0) (v := .ref q5) (ty := (.array .int)) (C := RX0) (T := TX0) (N := 12) hxx hb hts hiw tyX0 tyX0_ok nmX0 hown hK hP hD hS 0 rfl rfl 5 (by decide) (hts (.fieldLink RX0 25 "TunedWrens" "cleanOfWren" "[I") (by decide +kernel)) (fun _ h9 => h9) rfl hin rfl (by decide +kernel) rfl rfl (Nat.le_of_ble_eq_true rfl) dX0_init_59 (fun H locs hP hD hS => ?_)
  have hP : va_P D vwCl ([(h, .inr (0, [.ref q0, .ref q1, .ref q2, .ref q3, .ref q4, .ref q5, .null, .int 0, .int 0, .int 0, .int 0, .int 0]))] ++ (wX hx dx cA zI cI) ++ [(q0, .inl (cA, 4, .inl (upd (upd (upd (upd (fun _ => 0) (0 : Int32).toNatClampNeg (-1)) (1 : Int32).toNatClampNeg (-1)) (2 : Int32).toNatClampNeg (-1)) (3 : Int32).toNatClampNeg (-1)))), (q1, .inl (cA, 4, .inl (fun _ => 0))), (q2, .inl (cA, 4, .inl (fun _ => 0))), (q3, .inl (cA, 4, .inl (fun _ => 0))), (q4, .inl (cA, 4, .inl (fun _ => 0))), (q5, .inl (cA, 4, .inl (fun _ => 0)))]) H := hP
  have hD : va_D (zA N0) ([(h, .inr (0, [.ref q0, .ref q1, .ref q2, .ref q3, .ref q4, .ref q5, .null, .int 0, .int 0, .int 0, .int 0, .int 0]))] ++ (wX hx dx cA zI cI) ++ [(q0, .inl (cA, 4, .inl (upd (upd (upd (upd (fun _ => 0) (0 : Int32).toNatClampNeg (-1)) (1 : Int32).toNatClampNeg (-1)) (2 : Int32).toNatClampNeg (-1)) (3 : Int32).toNatClampNeg (-1)))), (q1, .inl (cA, 4, .inl (fun _ => 0))), (q2, .inl (cA, 4, .inl (fun _ => 0))), (q3, .inl (cA, 4, .inl (fun _ => 0))), (q4, .inl (cA, 4, .inl (fun _ => 0))), (q5, .inl (cA, 4, .inl (fun _ => 0)))]) := hD
  refine lv_aload_n hxx hb dX0_init_62 rfl (lv_at hl 0 rfl) ?_
  refine lv_bipush (v := 12) hxx hb dX0_init_63 (by decide) ?_
  refine va_newa (atype := .int) (ty := .int) (N' := 12) (a0 := (12, .inl (fun _ => 0))) hxx hb (hts (.arrayClass .int) (by decide +kernel)) rfl hK hP hD hS hA (fun _ => rfl) (by decide) (by decide) (by decide) (Nat.le_of_ble_eq_true rfl) (Nat.le_of_ble_eq_true rfl) dX0_init_65 (fun q6 cB H hK hP hD hS => ?_)
  obtain rfl : cA = cB := (zcA hK (i := 0) (j := 1) rfl rfl).symm
  have hK : va_K D vwCl [(cA, .int)] s := hK.sub [0] rfl
  have hP : va_P D vwCl ([(h, .inr (0, [.ref q0, .ref q1, .ref q2, .ref q3, .ref q4, .ref q5, .null, .int 0, .int 0, .int 0, .int 0, .int 0]))] ++ (wX hx dx cA zI cI) ++ [(q0, .inl (cA, 4, .inl (upd (upd (upd (upd (fun _ => 0) (0 : Int32).toNatClampNeg (-1)) (1 : Int32).toNatClampNeg (-1)) (2 : Int32).toNatClampNeg (-1)) (3 : Int32).toNatClampNeg (-1)))), (q1, .inl (cA, 4, .inl (fun _ => 0))), (q2, .inl (cA, 4, .inl (fun _ => 0))), (q3, .inl (cA, 4, .inl (fun _ => 0))), (q4, .inl (cA, 4, .inl (fun _ => 0))), (q5, .inl (cA, 4, .inl (fun _ => 0))), (q6, .inl (cA, 12, .inl (fun _ => 0)))]) H := hP
  have hD : va_D (zA N0) ([(h, .inr (0, [.ref q0, .ref q1, .ref q2, .ref q3, .ref q4, .ref q5, .null, .int 0, .int 0, .int 0, .int 0, .int 0]))] ++ (wX hx dx cA zI cI) ++ [(q0, .inl (cA, 4, .inl (upd (upd (upd (upd (fun _ => 0) (0 : Int32).toNatClampNeg (-1)) (1 : Int32).toNatClampNeg (-1)) (2 : Int32).toNatClampNeg (-1)) (3 : Int32).toNatClampNeg (-1)))), (q1, .inl (cA, 4, .inl (fun _ => 0))), (q2, .inl (cA, 4, .inl (fun _ => 0))), (q3, .inl (cA, 4, .inl (fun _ => 0))), (q4, .inl (cA, 4, .inl (fun _ => 0))), (q5, .inl (cA, 4, .inl (fun _ => 0))), (q6, .inl (cA, 12, .inl (fun _ => 0)))]) := hD
  refine va_putF (D := D) (ci := 0) (v := .ref q6) (ty := (.array .int)) (C := RX0) (T := TX0) (N := 12) hxx hb hts hiw tyX0 tyX0_ok nmX0 hown hK hP hD hS 0 rfl rfl 6 (by decide) (hts (.fieldLink RX0 28 "TunedWrens" "framesOfSemitone" "[I") (by decide +kernel)) (fun _ h9 => h9) rfl hin rfl (by decide +kernel) rfl rfl (Nat.le_of_ble_eq_true rfl) dX0_init_67 (fun H locs hP hD hS => ?_)
  have hP : va_P D vwCl ([(h, .inr (0, [.ref q0, .ref q1, .ref q2, .ref q3, .ref q4, .ref q5, .ref q6, .int 0, .int 0, .int 0, .int 0, .int 0]))] ++ (wX hx dx cA zI cI) ++ [(q0, .inl (cA, 4, .inl (upd (upd (upd (upd (fun _ => 0) (0 : Int32).toNatClampNeg (-1)) (1 : Int32).toNatClampNeg (-1)) (2 : Int32).toNatClampNeg (-1)) (3 : Int32).toNatClampNeg (-1)))), (q1, .inl (cA, 4, .inl (fun _ => 0))), (q2, .inl (cA, 4, .inl (fun _ => 0))), (q3, .inl (cA, 4, .inl (fun _ => 0))), (q4, .inl (cA, 4, .inl (fun _ => 0))), (q5, .inl (cA, 4, .inl (fun _ => 0))), (q6, .inl (cA, 12, .inl (fun _ => 0)))]) H := hP
  have hD : va_D (zA N0) ([(h, .inr (0, [.ref q0, .ref q1, .ref q2, .ref q3, .ref q4, .ref q5, .ref q6, .int 0, .int 0, .int 0, .int 0, .int 0]))] ++ (wX hx dx cA zI cI) ++ [(q0, .inl (cA, 4, .inl (upd (upd (upd (upd (fun _ => 0) (0 : Int32).toNatClampNeg (-1)) (1 : Int32).toNatClampNeg (-1)) (2 : Int32).toNatClampNeg (-1)) (3 : Int32).toNatClampNeg (-1)))), (q1, .inl (cA, 4, .inl (fun _ => 0))), (q2, .inl (cA, 4, .inl (fun _ => 0))), (q3, .inl (cA, 4, .inl (fun _ => 0))), (q4, .inl (cA, 4, .inl (fun _ => 0))), (q5, .inl (cA, 4, .inl (fun _ => 0))), (q6, .inl (cA, 12, .inl (fun _ => 0)))]) := hD
  refine lv_aload_n hxx hb dX0_init_70 rfl (lv_at hl 0 rfl) ?_
  refine lv_iconst (v := 0) hxx hb dX0_init_71 (by decide) ?_
  refine va_put (D := D) (ci := 0) (v := .int 0) (ty := .int) (C := RX0) (T := TX0) (N := 12) hxx hb hts hiw tyX0 tyX0_ok nmX0 hown hK hP hD hS 0 rfl rfl 7 (by decide) (hts (.fieldLink RX0 31 "TunedWrens" "scaleKey" "I") (by decide +kernel)) (fun _ h9 => h9) rfl (by decide +kernel) rfl rfl (Nat.le_of_ble_eq_true rfl) dX0_init_72 (fun H locs hP hD hS => ?_)
  have hP : va_P D vwCl ([(h, .inr (0, [.ref q0, .ref q1, .ref q2, .ref q3, .ref q4, .ref q5, .ref q6, .int 0, .int 0, .int 0, .int 0, .int 0]))] ++ (wX hx dx cA zI cI) ++ [(q0, .inl (cA, 4, .inl (upd (upd (upd (upd (fun _ => 0) (0 : Int32).toNatClampNeg (-1)) (1 : Int32).toNatClampNeg (-1)) (2 : Int32).toNatClampNeg (-1)) (3 : Int32).toNatClampNeg (-1)))), (q1, .inl (cA, 4, .inl (fun _ => 0))), (q2, .inl (cA, 4, .inl (fun _ => 0))), (q3, .inl (cA, 4, .inl (fun _ => 0))), (q4, .inl (cA, 4, .inl (fun _ => 0))), (q5, .inl (cA, 4, .inl (fun _ => 0))), (q6, .inl (cA, 12, .inl (fun _ => 0)))]) H := hP
  have hD : va_D (zA N0) ([(h, .inr (0, [.ref q0, .ref q1, .ref q2, .ref q3, .ref q4, .ref q5, .ref q6, .int 0, .int 0, .int 0, .int 0, .int 0]))] ++ (wX hx dx cA zI cI) ++ [(q0, .inl (cA, 4, .inl (upd (upd (upd (upd (fun _ => 0) (0 : Int32).toNatClampNeg (-1)) (1 : Int32).toNatClampNeg (-1)) (2 : Int32).toNatClampNeg (-1)) (3 : Int32).toNatClampNeg (-1)))), (q1, .inl (cA, 4, .inl (fun _ => 0))), (q2, .inl (cA, 4, .inl (fun _ => 0))), (q3, .inl (cA, 4, .inl (fun _ => 0))), (q4, .inl (cA, 4, .inl (fun _ => 0))), (q5, .inl (cA, 4, .inl (fun _ => 0))), (q6, .inl (cA, 12, .inl (fun _ => 0)))]) := hD
  refine lv_aload_n hxx hb dX0_init_75 rfl (lv_at hl 0 rfl) ?_
  refine lv_iconst (v := 0) hxx hb dX0_init_76 (by decide) ?_
  refine va_put (D := D) (ci := 0) (v := .int 0) (ty := .int) (C := RX0) (T := TX0) (N := 12) hxx hb hts hiw tyX0 tyX0_ok nmX0 hown hK hP hD hS 0 rfl rfl 8 (by decide) (hts (.fieldLink RX0 35 "TunedWrens" "scaleMode" "I") (by decide +kernel)) (fun _ h9 => h9) rfl (by decide +kernel) rfl rfl (Nat.le_of_ble_eq_true rfl) dX0_init_77 (fun H locs hP hD hS => ?_)
  have hP : va_P D vwCl ([(h, .inr (0, [.ref q0, .ref q1, .ref q2, .ref q3, .ref q4, .ref q5, .ref q6, .int 0, .int 0, .int 0, .int 0, .int 0]))] ++ (wX hx dx cA zI cI) ++ [(q0, .inl (cA, 4, .inl (upd (upd (upd (upd (fun _ => 0) (0 : Int32).toNatClampNeg (-1)) (1 : Int32).toNatClampNeg (-1)) (2 : Int32).toNatClampNeg (-1)) (3 : Int32).toNatClampNeg (-1)))), (q1, .inl (cA, 4, .inl (fun _ => 0))), (q2, .inl (cA, 4, .inl (fun _ => 0))), (q3, .inl (cA, 4, .inl (fun _ => 0))), (q4, .inl (cA, 4, .inl (fun _ => 0))), (q5, .inl (cA, 4, .inl (fun _ => 0))), (q6, .inl (cA, 12, .inl (fun _ => 0)))]) H := hP
  have hD : va_D (zA N0) ([(h, .inr (0, [.ref q0, .ref q1, .ref q2, .ref q3, .ref q4, .ref q5, .ref q6, .int 0, .int 0, .int 0, .int 0, .int 0]))] ++ (wX hx dx cA zI cI) ++ [(q0, .inl (cA, 4, .inl (upd (upd (upd (upd (fun _ => 0) (0 : Int32).toNatClampNeg (-1)) (1 : Int32).toNatClampNeg (-1)) (2 : Int32).toNatClampNeg (-1)) (3 : Int32).toNatClampNeg (-1)))), (q1, .inl (cA, 4, .inl (fun _ => 0))), (q2, .inl (cA, 4, .inl (fun _ => 0))), (q3, .inl (cA, 4, .inl (fun _ => 0))), (q4, .inl (cA, 4, .inl (fun _ => 0))), (q5, .inl (cA, 4, .inl (fun _ => 0))), (q6, .inl (cA, 12, .inl (fun _ => 0)))]) := hD
  refine lv_aload_n hxx hb dX0_init_80 rfl (lv_at hl 0 rfl) ?_
  refine lv_bipush (v := 100) hxx hb dX0_init_81 (by decide) ?_
  refine va_put (D := D) (ci := 0) (v := .int 100) (ty := .int) (C := RX0) (T := TX0) (N := 12) hxx hb hts hiw tyX0 tyX0_ok nmX0 hown hK hP hD hS 0 rfl rfl 9 (by decide) (hts (.fieldLink RX0 38 "TunedWrens" "nudgeSpeed" "I") (by decide +kernel)) (fun _ h9 => h9) rfl (by decide +kernel) rfl rfl (Nat.le_of_ble_eq_true rfl) dX0_init_83 (fun H locs hP hD hS => ?_)
  have hP : va_P D vwCl ([(h, .inr (0, [.ref q0, .ref q1, .ref q2, .ref q3, .ref q4, .ref q5, .ref q6, .int 0, .int 0, .int 100, .int 0, .int 0]))] ++ (wX hx dx cA zI cI) ++ [(q0, .inl (cA, 4, .inl (upd (upd (upd (upd (fun _ => 0) (0 : Int32).toNatClampNeg (-1)) (1 : Int32).toNatClampNeg (-1)) (2 : Int32).toNatClampNeg (-1)) (3 : Int32).toNatClampNeg (-1)))), (q1, .inl (cA, 4, .inl (fun _ => 0))), (q2, .inl (cA, 4, .inl (fun _ => 0))), (q3, .inl (cA, 4, .inl (fun _ => 0))), (q4, .inl (cA, 4, .inl (fun _ => 0))), (q5, .inl (cA, 4, .inl (fun _ => 0))), (q6, .inl (cA, 12, .inl (fun _ => 0)))]) H := hP
  have hD : va_D (zA N0) ([(h, .inr (0, [.ref q0, .ref q1, .ref q2, .ref q3, .ref q4, .ref q5, .ref q6, .int 0, .int 0, .int 100, .int 0, .int 0]))] ++ (wX hx dx cA zI cI) ++ [(q0, .inl (cA, 4, .inl (upd (upd (upd (upd (fun _ => 0) (0 : Int32).toNatClampNeg (-1)) (1 : Int32).toNatClampNeg (-1)) (2 : Int32).toNatClampNeg (-1)) (3 : Int32).toNatClampNeg (-1)))), (q1, .inl (cA, 4, .inl (fun _ => 0))), (q2, .inl (cA, 4, .inl (fun _ => 0))), (q3, .inl (cA, 4, .inl (fun _ => 0))), (q4, .inl (cA, 4, .inl (fun _ => 0))), (q5, .inl (cA, 4, .inl (fun _ => 0))), (q6, .inl (cA, 12, .inl (fun _ => 0)))]) := hD
  refine lv_aload_n hxx hb dX0_init_86 rfl (lv_at hl 0 rfl) ?_
  refine lv_bipush (v := 60) hxx hb dX0_init_87 (by decide) ?_
  refine va_put (D := D) (ci := 0) (v := .int 60) (ty := .int) (C := RX0) (T := TX0) (N := 12) hxx hb hts hiw tyX0 tyX0_ok nmX0 hown hK hP hD hS 0 rfl rfl 10 (by decide) (hts (.fieldLink RX0 41 "TunedWrens" "rungLeash" "I") (by decide +kernel)) (fun _ h9 => h9) rfl (by decide +kernel) rfl rfl (Nat.le_of_ble_eq_true rfl) dX0_init_89 (fun H locs hP hD hS => ?_)
  have hP : va_P D vwCl ([(h, .inr (0, [.ref q0, .ref q1, .ref q2, .ref q3, .ref q4, .ref q5, .ref q6, .int 0, .int 0, .int 100, .int 60, .int 0]))] ++ (wX hx dx cA zI cI) ++ [(q0, .inl (cA, 4, .inl (upd (upd (upd (upd (fun _ => 0) (0 : Int32).toNatClampNeg (-1)) (1 : Int32).toNatClampNeg (-1)) (2 : Int32).toNatClampNeg (-1)) (3 : Int32).toNatClampNeg (-1)))), (q1, .inl (cA, 4, .inl (fun _ => 0))), (q2, .inl (cA, 4, .inl (fun _ => 0))), (q3, .inl (cA, 4, .inl (fun _ => 0))), (q4, .inl (cA, 4, .inl (fun _ => 0))), (q5, .inl (cA, 4, .inl (fun _ => 0))), (q6, .inl (cA, 12, .inl (fun _ => 0)))]) H := hP
  have hD : va_D (zA N0) ([(h, .inr (0, [.ref q0, .ref q1, .ref q2, .ref q3, .ref q4, .ref q5, .ref q6, .int 0, .int 0, .int 100, .int 60, .int 0]))] ++ (wX hx dx cA zI cI) ++ [(q0, .inl (cA, 4, .inl (upd (upd (upd (upd (fun _ => 0) (0 : Int32).toNatClampNeg (-1)) (1 : Int32).toNatClampNeg (-1)) (2 : Int32).toNatClampNeg (-1)) (3 : Int32).toNatClampNeg (-1)))), (q1, .inl (cA, 4, .inl (fun _ => 0))), (q2, .inl (cA, 4, .inl (fun _ => 0))), (q3, .inl (cA, 4, .inl (fun _ => 0))), (q4, .inl (cA, 4, .inl (fun _ => 0))), (q5, .inl (cA, 4, .inl (fun _ => 0))), (q6, .inl (cA, 12, .inl (fun _ => 0)))]) := hD
  refine lv_aload_n hxx hb dX0_init_92 rfl (lv_at hl 0 rfl) ?_
  refine lv_sipush (v := 400) hxx hb dX0_init_93 (by decide) ?_
  refine va_put (D := D) (ci := 0) (v := .int 400) (ty := .int) (C := RX0) (T := TX0) (N := 12) hxx hb hts hiw tyX0 tyX0_ok nmX0 hown hK hP hD hS 0 rfl rfl 11 (by decide) (hts (.fieldLink RX0 44 "TunedWrens" "leapGlide" "I") (by decide +kernel)) (fun _ h9 => h9) rfl (by decide +kernel) rfl rfl (Nat.le_of_ble_eq_true rfl) dX0_init_96 (fun H locs hP hD hS => ?_)
  have hP : va_P D vwCl ([(h, .inr (0, [.ref q0, .ref q1, .ref q2, .ref q3, .ref q4, .ref q5, .ref q6, .int 0, .int 0, .int 100, .int 60, .int 400]))] ++ (wX hx dx cA zI cI) ++ [(q0, .inl (cA, 4, .inl (upd (upd (upd (upd (fun _ => 0) (0 : Int32).toNatClampNeg (-1)) (1 : Int32).toNatClampNeg (-1)) (2 : Int32).toNatClampNeg (-1)) (3 : Int32).toNatClampNeg (-1)))), (q1, .inl (cA, 4, .inl (fun _ => 0))), (q2, .inl (cA, 4, .inl (fun _ => 0))), (q3, .inl (cA, 4, .inl (fun _ => 0))), (q4, .inl (cA, 4, .inl (fun _ => 0))), (q5, .inl (cA, 4, .inl (fun _ => 0))), (q6, .inl (cA, 12, .inl (fun _ => 0)))]) H := hP
  have hD : va_D (zA N0) ([(h, .inr (0, [.ref q0, .ref q1, .ref q2, .ref q3, .ref q4, .ref q5, .ref q6, .int 0, .int 0, .int 100, .int 60, .int 400]))] ++ (wX hx dx cA zI cI) ++ [(q0, .inl (cA, 4, .inl (upd (upd (upd (upd (fun _ => 0) (0 : Int32).toNatClampNeg (-1)) (1 : Int32).toNatClampNeg (-1)) (2 : Int32).toNatClampNeg (-1)) (3 : Int32).toNatClampNeg (-1)))), (q1, .inl (cA, 4, .inl (fun _ => 0))), (q2, .inl (cA, 4, .inl (fun _ => 0))), (q3, .inl (cA, 4, .inl (fun _ => 0))), (q4, .inl (cA, 4, .inl (fun _ => 0))), (q5, .inl (cA, 4, .inl (fun _ => 0))), (q6, .inl (cA, 12, .inl (fun _ => 0)))]) := hD
  have hP : va_P D vwCl (wX h (zAd q0 q1 q2 q3 q4 q5 q6) cA zI cI ++ wX hx dx cA zI cI) H := hP.sub [0, 9, 10, 11, 12, 13, 14, 15, 1, 2, 3, 4, 5, 6, 7, 8] rfl
  have hD : va_D (zA N0) (wX h (zAd q0 q1 q2 q3 q4 q5 q6) cA zI cI ++ wX hx dx cA zI cI) := hD.sub [0, 9, 10, 11, 12, 13, 14, 15, 1, 2, 3, 4, 5, 6, 7, 8] (by decide) rfl
  exact W.vret hxx hb hr (fun t ht hW => ⟨⟨(), rfl, trivial, ⟨zAd q0 q1 q2 q3 q4 q5 q6, ⟨by rw [ht]; exact hP, hD⟩⟩⟩, hS.F ht⟩) hS.2.2 dX0_init_99
end
section
theorem dL_cell_0 : decode cL_cell 0 = .ok (.iload_n 1, 1) := by decide +kernel
theorem dL_cell_1 : decode cL_cell 1 = .ok (.aload_n 0, 1) := by decide +kernel
theorem dL_cell_2 : decode cL_cell 2 = .ok (.arraylength, 1) := by decide +kernel
theorem dL_cell_3 : decode cL_cell 3 = .ok (.if_icmp .ge 9, 3) := by decide +kernel
theorem dL_cell_6 : decode cL_cell 6 = .ok (.aload_n 0, 1) := by decide +kernel
theorem dL_cell_7 : decode cL_cell 7 = .ok (.iload_n 1, 1) := by decide +kernel
theorem dL_cell_8 : decode cL_cell 8 = .ok (.iaload, 1) := by decide +kernel
theorem dL_cell_9 : decode cL_cell 9 = .ok (.goto 17, 3) := by decide +kernel
theorem dL_cell_12 : decode cL_cell 12 = .ok (.sipush 7919, 3) := by decide +kernel
theorem dL_cell_15 : decode cL_cell 15 = .ok (.iload_n 1, 1) := by decide +kernel
theorem dL_cell_16 : decode cL_cell 16 = .ok (.bipush 7, 2) := by decide +kernel
theorem dL_cell_18 : decode cL_cell 18 = .ok (.iadd, 1) := by decide +kernel
theorem dL_cell_19 : decode cL_cell 19 = .ok (.imul, 1) := by decide +kernel
theorem dL_cell_20 : decode cL_cell 20 = .ok (.iload_n 1, 1) := by decide +kernel
theorem dL_cell_21 : decode cL_cell 21 = .ok (.sipush 2089, 3) := by decide +kernel
theorem dL_cell_24 : decode cL_cell 24 = .ok (.iadd, 1) := by decide +kernel
theorem dL_cell_25 : decode cL_cell 25 = .ok (.imul, 1) := by decide +kernel
theorem dL_cell_26 : decode cL_cell 26 = .ok (.ireturn, 1) := by decide +kernel
theorem dL_low_0 : decode cL_low 0 = .ok (.iload_n 0, 1) := by decide +kernel
theorem dL_low_1 : decode cL_low 1 = .ok (.ldc 7, 2) := by decide +kernel
theorem dL_low_3 : decode cL_low 3 = .ok (.iand, 1) := by decide +kernel
theorem dL_low_4 : decode cL_low 4 = .ok (.iload_n 1, 1) := by decide +kernel
theorem dL_low_5 : decode cL_low 5 = .ok (.irem, 1) := by decide +kernel
theorem dL_low_6 : decode cL_low 6 = .ok (.ireturn, 1) := by decide +kernel
set_option maxRecDepth 20000 in
theorem ggL_sing_X0_sing : GoodIn wsL_sing wsX0_sing := goodIn_ca (goodIn_ca (goodIn_r _ [8, 9, 10, 7, 11, 12, 13, 14, 15, 16, 17, 18, 19, 20, 21, 22, 23, 24, 25, 26, 27, 28, 29, 30, 31, 32, 33, 34, 35, 36, 37, 38, 39, 40, 41, 42, 43, 44, 45, 46, 47, 48, 49, 50, 51, 52, 53, 54, 55, 56, 57, 58, 59, 60, 61, 62, 63, 64, 65, 66, 67, 68, 69, 70, 71, 72, 73, 74, 75, 76, 77, 78, 79, 80, 81, 82, 83, 84, 85, 86, 87, 88, 89, 90, 91, 92, 93, 94, 95, 96, 97, 98, 99, 100, 101, 102, 103, 104, 105, 106, 107, 108, 109] (by decide +kernel) (by decide +kernel)) (goodIn_sub (fun _ h => List.mem_cons_of_mem _ (List.mem_append_left _ (List.mem_append_right _ h))) (by decide +kernel))) (goodIn_sub (fun _ h => List.mem_cons_of_mem _ (List.mem_append_right _ h)) (by decide +kernel))
set_option maxRecDepth 20000 in
theorem gL_sing_X0_sing : GoodIn wsL_sing (wsV RL 8 RX0 yX0_sing wsX0_sing) := goodIn_app (goodIn_of _ (by decide +kernel)) ggL_sing_X0_sing
theorem dL_sing_0 : decode cL_sing 0 = .ok (.aload_n 0, 1) := by decide +kernel
theorem dL_sing_1 : decode cL_sing 1 = .ok (.iload_n 1, 1) := by decide +kernel
theorem dL_sing_2 : decode cL_sing 2 = .ok (.iload_n 2, 1) := by decide +kernel
theorem dL_sing_3 : decode cL_sing 3 = .ok (.invokevirtual 8, 3) := by decide +kernel
theorem dL_sing_6 : decode cL_sing 6 = .ok (.ireturn, 1) := by decide +kernel
theorem dL_sing_7 : decode cL_sing 7 = .ok (.astore_n 3, 1) := by decide +kernel
theorem dL_sing_8 : decode cL_sing 8 = .ok (.ldc 16, 2) := by decide +kernel
theorem dL_sing_10 : decode cL_sing 10 = .ok (.ireturn, 1) := by decide +kernel
theorem dL_sing_11 : decode cL_sing 11 = .ok (.astore_n 3, 1) := by decide +kernel
theorem dL_sing_12 : decode cL_sing 12 = .ok (.ldc 16, 2) := by decide +kernel
theorem dL_sing_14 : decode cL_sing 14 = .ok (.ireturn, 1) := by decide +kernel
set_option maxRecDepth 20000 in
theorem ggL_slide_X0_slide : GoodIn wsL_slide wsX0_slide := goodIn_ca (goodIn_ca (goodIn_r _ [8, 9, 10, 11, 7, 12, 13, 14, 15, 16, 17, 18, 19, 20, 21, 22, 23, 24, 25, 26, 27, 28, 29, 30, 31, 32, 33, 34, 35, 36, 37, 38, 39, 40, 41, 42, 43, 44, 45, 46, 47, 48, 49, 50, 51, 52, 53, 54, 55, 56, 57, 58, 59, 60, 61, 62, 63, 64, 65, 66, 67, 68, 69, 70, 71, 72, 73, 74, 75, 76, 77, 78, 79, 80, 81, 82, 83, 84, 85, 86, 87, 88, 89, 90, 91, 92, 93, 94, 95, 96, 97, 98, 99, 100, 101, 102, 103, 104, 105, 106, 107, 108, 109, 110, 111, 112] (by decide +kernel) (by decide +kernel)) (goodIn_sub (fun _ h => List.mem_cons_of_mem _ (List.mem_append_left _ (List.mem_append_right _ h))) (by decide +kernel))) (goodIn_sub (fun _ h => List.mem_cons_of_mem _ (List.mem_append_right _ h)) (by decide +kernel))
set_option maxRecDepth 20000 in
theorem gL_slide_X0_slide : GoodIn wsL_slide (wsV RL 19 RX0 yX0_slide wsX0_slide) := goodIn_app (goodIn_of _ (by decide +kernel)) ggL_slide_X0_slide
theorem dL_slide_0 : decode cL_slide 0 = .ok (.aload_n 0, 1) := by decide +kernel
theorem dL_slide_1 : decode cL_slide 1 = .ok (.iload_n 1, 1) := by decide +kernel
theorem dL_slide_2 : decode cL_slide 2 = .ok (.iload_n 2, 1) := by decide +kernel
theorem dL_slide_3 : decode cL_slide 3 = .ok (.iload_n 3, 1) := by decide +kernel
theorem dL_slide_4 : decode cL_slide 4 = .ok (.iload 4, 2) := by decide +kernel
theorem dL_slide_6 : decode cL_slide 6 = .ok (.invokevirtual 19, 3) := by decide +kernel
theorem dL_slide_9 : decode cL_slide 9 = .ok (.ireturn, 1) := by decide +kernel
theorem dL_slide_10 : decode cL_slide 10 = .ok (.astore 5, 2) := by decide +kernel
theorem dL_slide_12 : decode cL_slide 12 = .ok (.ldc 16, 2) := by decide +kernel
theorem dL_slide_14 : decode cL_slide 14 = .ok (.ireturn, 1) := by decide +kernel
theorem dL_slide_15 : decode cL_slide 15 = .ok (.astore 5, 2) := by decide +kernel
theorem dL_slide_17 : decode cL_slide 17 = .ok (.ldc 16, 2) := by decide +kernel
theorem dL_slide_19 : decode cL_slide 19 = .ok (.ireturn, 1) := by decide +kernel
set_option maxRecDepth 20000 in
theorem ggL_rest_X0_rest : GoodIn wsL_rest wsX0_rest := goodIn_ca (goodIn_r _ [7, 8, 9, 10, 11, 6, 12, 13, 14, 15, 16, 17, 18, 19, 20, 21, 22, 23, 24, 25, 26] (by decide +kernel) (by decide +kernel)) (goodIn_sub (fun _ h => List.mem_cons_of_mem _ (List.mem_append_right _ h)) (by decide +kernel))
set_option maxRecDepth 20000 in
theorem gL_rest_X0_rest : GoodIn wsL_rest (wsV RL 23 RX0 yX0_rest wsX0_rest) := goodIn_app (goodIn_of _ (by decide +kernel)) ggL_rest_X0_rest
theorem dL_rest_0 : decode cL_rest 0 = .ok (.aload_n 0, 1) := by decide +kernel
theorem dL_rest_1 : decode cL_rest 1 = .ok (.iload_n 1, 1) := by decide +kernel
theorem dL_rest_2 : decode cL_rest 2 = .ok (.invokevirtual 23, 3) := by decide +kernel
theorem dL_rest_5 : decode cL_rest 5 = .ok (.ireturn, 1) := by decide +kernel
theorem dL_rest_6 : decode cL_rest 6 = .ok (.astore_n 2, 1) := by decide +kernel
theorem dL_rest_7 : decode cL_rest 7 = .ok (.ldc 16, 2) := by decide +kernel
theorem dL_rest_9 : decode cL_rest 9 = .ok (.ireturn, 1) := by decide +kernel
set_option maxRecDepth 20000 in
theorem ggL_scale_X0_setScale : GoodIn wsL_scale wsX0_setScale := goodIn_ca (goodIn_r _ [7, 8, 9, 10, 11, 12, 6, 13, 14, 15, 16, 17, 18, 19, 20, 21, 22, 23, 24, 25, 26, 27, 28, 29, 30, 31, 32, 33, 34, 35, 36, 37, 38, 39, 40, 41, 42, 43] (by decide +kernel) (by decide +kernel)) (goodIn_sub (fun _ h => List.mem_cons_of_mem _ (List.mem_append_right _ h)) (by decide +kernel))
set_option maxRecDepth 20000 in
theorem gL_scale_X0_setScale : GoodIn wsL_scale (wsV RL 27 RX0 yX0_setScale wsX0_setScale) := goodIn_app (goodIn_of _ (by decide +kernel)) ggL_scale_X0_setScale
theorem dL_scale_0 : decode cL_scale 0 = .ok (.aload_n 0, 1) := by decide +kernel
theorem dL_scale_1 : decode cL_scale 1 = .ok (.iload_n 1, 1) := by decide +kernel
theorem dL_scale_2 : decode cL_scale 2 = .ok (.iload_n 2, 1) := by decide +kernel
theorem dL_scale_3 : decode cL_scale 3 = .ok (.invokevirtual 27, 3) := by decide +kernel
theorem dL_scale_6 : decode cL_scale 6 = .ok (.ireturn, 1) := by decide +kernel
theorem dL_scale_7 : decode cL_scale 7 = .ok (.astore_n 3, 1) := by decide +kernel
theorem dL_scale_8 : decode cL_scale 8 = .ok (.ldc 16, 2) := by decide +kernel
theorem dL_scale_10 : decode cL_scale 10 = .ok (.ireturn, 1) := by decide +kernel
set_option maxRecDepth 20000 in
theorem ggL_nudge_X0_setNudging : GoodIn wsL_nudge wsX0_setNudging := goodIn_ca (goodIn_r _ [6, 7, 8, 9, 10, 11, 5, 12, 13, 14, 15, 16, 17, 18, 19, 20, 21, 22, 23, 24, 25, 26] (by decide +kernel) (by decide +kernel)) (goodIn_sub (fun _ h => List.mem_cons_of_mem _ (List.mem_append_right _ h)) (by decide +kernel))
set_option maxRecDepth 20000 in
theorem gL_nudge_X0_setNudging : GoodIn wsL_nudge (wsV RL 30 RX0 yX0_setNudging wsX0_setNudging) := goodIn_app (goodIn_of _ (by decide +kernel)) ggL_nudge_X0_setNudging
theorem dL_nudge_0 : decode cL_nudge 0 = .ok (.aload_n 0, 1) := by decide +kernel
theorem dL_nudge_1 : decode cL_nudge 1 = .ok (.iload_n 1, 1) := by decide +kernel
theorem dL_nudge_2 : decode cL_nudge 2 = .ok (.iload_n 2, 1) := by decide +kernel
theorem dL_nudge_3 : decode cL_nudge 3 = .ok (.iload_n 3, 1) := by decide +kernel
theorem dL_nudge_4 : decode cL_nudge 4 = .ok (.invokevirtual 30, 3) := by decide +kernel
theorem dL_nudge_7 : decode cL_nudge 7 = .ok (.goto 7, 3) := by decide +kernel
theorem dL_nudge_10 : decode cL_nudge 10 = .ok (.astore 4, 2) := by decide +kernel
theorem dL_nudge_12 : decode cL_nudge 12 = .ok (.iconst 0, 1) := by decide +kernel
theorem dL_nudge_13 : decode cL_nudge 13 = .ok (.ireturn, 1) := by decide +kernel
theorem dL_nudge_14 : decode cL_nudge 14 = .ok (.iconst 1, 1) := by decide +kernel
theorem dL_nudge_15 : decode cL_nudge 15 = .ok (.ireturn, 1) := by decide +kernel
set_option maxRecDepth 20000 in
theorem ggL_act_L_low : GoodIn wsL_act wsL_low := goodIn_r _ [5, 6] (by decide +kernel) (by decide +kernel)
set_option maxRecDepth 20000 in
theorem gL_act_L_low : GoodIn wsL_act (va_wsS RL 34 yL_low wsL_low) := goodIn_app (goodIn_of _ (by decide +kernel)) ggL_act_L_low
set_option maxRecDepth 20000 in
theorem ggL_act_L_scale : GoodIn wsL_act wsL_scale := goodIn_ca (goodIn_r _ [9, 10, 1, 11, 12, 13, 14, 15, 16, 17, 18, 19, 20, 21, 22, 23, 24, 25, 26, 27, 28, 29, 30, 31, 32, 33, 34, 35, 36, 37, 38, 39, 141, 142, 143, 144, 145, 146, 147, 148, 149, 150, 151, 152] (by decide +kernel) (by decide +kernel)) (goodIn_sub (fun _ h => List.mem_cons_of_mem _ (List.mem_append_left _ (List.mem_append_right _ h))) (by decide +kernel))
set_option maxRecDepth 20000 in
theorem gL_act_L_scale : GoodIn wsL_act (va_wsS RL 39 yL_scale wsL_scale) := goodIn_app (goodIn_of _ (by decide +kernel)) ggL_act_L_scale
set_option maxRecDepth 20000 in
theorem ggL_act_L_nudge : GoodIn wsL_act wsL_nudge := goodIn_ca (goodIn_r _ [42, 10, 43, 44, 45, 14, 46, 47, 48, 49, 19, 20, 21, 22, 23, 141, 142, 143, 144, 145, 146, 147, 148, 149, 150, 151, 152] (by decide +kernel) (by decide +kernel)) (goodIn_sub (fun _ h => List.mem_cons_of_mem _ (List.mem_append_left _ (List.mem_append_right _ h))) (by decide +kernel))
set_option maxRecDepth 20000 in
theorem gL_act_L_nudge : GoodIn wsL_act (va_wsS RL 43 yL_nudge wsL_nudge) := goodIn_app (goodIn_of _ (by decide +kernel)) ggL_act_L_nudge
set_option maxRecDepth 20000 in
theorem ggL_act_L_rest : GoodIn wsL_act wsL_rest := goodIn_ca (goodIn_r _ [52, 53, 1, 54, 55, 56, 14, 57, 18, 58, 59, 60, 61, 62, 63, 141, 142, 143, 144, 145, 146, 147, 148, 149, 150, 151, 152] (by decide +kernel) (by decide +kernel)) (goodIn_sub (fun _ h => List.mem_cons_of_mem _ (List.mem_append_right _ h)) (by decide +kernel))
set_option maxRecDepth 20000 in
theorem gL_act_L_rest : GoodIn wsL_act (va_wsS RL 47 yL_rest wsL_rest) := goodIn_app (goodIn_of _ (by decide +kernel)) ggL_act_L_rest
set_option maxRecDepth 20000 in
theorem ggL_act_L_slide : GoodIn wsL_act wsL_slide := goodIn_ca (goodIn_ca (goodIn_r _ [66, 53, 10, 1, 67, 68, 69, 14, 70, 71, 59, 60, 61, 62, 63, 72, 73, 74, 19, 20, 21, 22, 23, 75, 76, 38, 77, 78, 79, 80, 81, 18, 58, 82, 83, 84, 85, 86, 87, 88, 89, 90, 91, 92, 93, 48, 94, 95, 96, 97, 98, 99, 100, 101, 28, 29, 30, 31, 16, 17, 32, 33, 34, 35, 36, 37, 39, 102, 103, 104, 105, 106, 107, 108, 109, 110, 111, 112, 113, 49, 114, 115, 116, 117, 118, 119, 120, 47, 121, 122, 123, 124, 125, 126, 24, 25, 26, 27, 127, 128, 129, 141, 142, 143, 144, 145, 146, 147, 148, 149, 150, 151, 152] (by decide +kernel) (by decide +kernel)) (goodIn_sub (fun _ h => List.mem_cons_of_mem _ (List.mem_append_right _ h)) (by decide +kernel))) (goodIn_sub (fun _ h => List.mem_cons_of_mem _ (List.mem_append_left _ (List.mem_append_right _ h))) (by decide +kernel))
set_option maxRecDepth 20000 in
theorem gL_act_L_slide : GoodIn wsL_act (va_wsS RL 50 yL_slide wsL_slide) := goodIn_app (goodIn_of _ (by decide +kernel)) ggL_act_L_slide
set_option maxRecDepth 20000 in
theorem ggL_act_X0_rungOf : GoodIn wsL_act wsX0_rungOf := goodIn_ca (goodIn_r _ [133, 18, 59, 60, 14, 61, 62, 63, 141, 142, 143, 144, 145, 146, 147, 148, 149, 150, 151, 152] (by decide +kernel) (by decide +kernel)) (goodIn_sub (fun _ h => List.mem_cons_of_mem _ (List.mem_append_right _ h)) (by decide +kernel))
set_option maxRecDepth 20000 in
theorem gL_act_X0_rungOf : GoodIn wsL_act (wsV RL 53 RX0 yX0_rungOf wsX0_rungOf) := goodIn_app (goodIn_of _ (by decide +kernel)) ggL_act_X0_rungOf
set_option maxRecDepth 20000 in
theorem ggL_act_L_sing : GoodIn wsL_act wsL_sing := goodIn_ca (goodIn_ca (goodIn_r _ [136, 53, 10, 1, 137, 138, 139, 14, 140, 59, 60, 61, 62, 63, 72, 73, 74, 19, 20, 21, 22, 23, 78, 79, 80, 81, 18, 58, 82, 71, 83, 84, 85, 86, 87, 88, 89, 90, 91, 92, 93, 48, 94, 95, 96, 97, 98, 99, 100, 101, 28, 29, 30, 31, 16, 17, 32, 33, 34, 35, 36, 37, 38, 39, 102, 103, 104, 105, 106, 107, 108, 109, 110, 111, 112, 113, 49, 114, 115, 116, 117, 118, 119, 120, 47, 121, 122, 123, 124, 125, 126, 24, 25, 26, 27, 127, 128, 129, 141, 142, 143, 144, 145, 146, 147, 148, 149, 150, 151, 152] (by decide +kernel) (by decide +kernel)) (goodIn_sub (fun _ h => List.mem_cons_of_mem _ (List.mem_append_right _ h)) (by decide +kernel))) (goodIn_sub (fun _ h => List.mem_cons_of_mem _ (List.mem_append_left _ (List.mem_append_right _ h))) (by decide +kernel))
set_option maxRecDepth 20000 in
theorem gL_act_L_sing : GoodIn wsL_act (va_wsS RL 56 yL_sing wsL_sing) := goodIn_app (goodIn_of _ (by decide +kernel)) ggL_act_L_sing
theorem dL_act_0 : decode cL_act 0 = .ok (.iload_n 1, 1) := by decide +kernel
theorem dL_act_1 : decode cL_act 1 = .ok (.bipush 22, 2) := by decide +kernel
theorem dL_act_3 : decode cL_act 3 = .ok (.ishr, 1) := by decide +kernel
theorem dL_act_4 : decode cL_act 4 = .ok (.bipush 8, 2) := by decide +kernel
theorem dL_act_6 : decode cL_act 6 = .ok (.invokestatic 34, 3) := by decide +kernel
theorem dL_act_9 : decode cL_act 9 = .ok (.ifCond .ne 7, 3) := by decide +kernel
theorem dL_act_12 : decode cL_act 12 = .ok (.iconst 1, 1) := by decide +kernel
theorem dL_act_13 : decode cL_act 13 = .ok (.goto 4, 3) := by decide +kernel
theorem dL_act_16 : decode cL_act 16 = .ok (.iconst 0, 1) := by decide +kernel
theorem dL_act_17 : decode cL_act 17 = .ok (.istore_n 2, 1) := by decide +kernel
theorem dL_act_18 : decode cL_act 18 = .ok (.iload_n 1, 1) := by decide +kernel
theorem dL_act_19 : decode cL_act 19 = .ok (.iconst 4, 1) := by decide +kernel
theorem dL_act_20 : decode cL_act 20 = .ok (.ishr, 1) := by decide +kernel
theorem dL_act_21 : decode cL_act 21 = .ok (.iload_n 2, 1) := by decide +kernel
theorem dL_act_22 : decode cL_act 22 = .ok (.ifCond .eq 8, 3) := by decide +kernel
theorem dL_act_25 : decode cL_act 25 = .ok (.bipush 6, 2) := by decide +kernel
theorem dL_act_27 : decode cL_act 27 = .ok (.goto 4, 3) := by decide +kernel
theorem dL_act_30 : decode cL_act 30 = .ok (.iconst 4, 1) := by decide +kernel
theorem dL_act_31 : decode cL_act 31 = .ok (.invokestatic 34, 3) := by decide +kernel
theorem dL_act_34 : decode cL_act 34 = .ok (.istore_n 3, 1) := by decide +kernel
theorem dL_act_35 : decode cL_act 35 = .ok (.iload_n 1, 1) := by decide +kernel
theorem dL_act_36 : decode cL_act 36 = .ok (.bipush 6, 2) := by decide +kernel
theorem dL_act_38 : decode cL_act 38 = .ok (.ishr, 1) := by decide +kernel
theorem dL_act_39 : decode cL_act 39 = .ok (.iload_n 2, 1) := by decide +kernel
theorem dL_act_40 : decode cL_act 40 = .ok (.ifCond .eq 9, 3) := by decide +kernel
theorem dL_act_43 : decode cL_act 43 = .ok (.sipush 13000, 3) := by decide +kernel
theorem dL_act_46 : decode cL_act 46 = .ok (.goto 6, 3) := by decide +kernel
theorem dL_act_49 : decode cL_act 49 = .ok (.sipush 12001, 3) := by decide +kernel
theorem dL_act_52 : decode cL_act 52 = .ok (.invokestatic 34, 3) := by decide +kernel
theorem dL_act_55 : decode cL_act 55 = .ok (.istore 4, 2) := by decide +kernel
theorem dL_act_57 : decode cL_act 57 = .ok (.iload_n 1, 1) := by decide +kernel
theorem dL_act_58 : decode cL_act 58 = .ok (.bipush 12, 2) := by decide +kernel
theorem dL_act_60 : decode cL_act 60 = .ok (.invokestatic 34, 3) := by decide +kernel
theorem dL_act_63 : decode cL_act 63 = .ok (.tableswitch 274 0 7 #[45, 86, 157, 163, 163, 219, 219, 219], 45) := by decide +kernel
theorem dL_act_108 : decode cL_act 108 = .ok (.aload_n 0, 1) := by decide +kernel
theorem dL_act_109 : decode cL_act 109 = .ok (.iload_n 1, 1) := by decide +kernel
theorem dL_act_110 : decode cL_act 110 = .ok (.bipush 6, 2) := by decide +kernel
theorem dL_act_112 : decode cL_act 112 = .ok (.ishr, 1) := by decide +kernel
theorem dL_act_113 : decode cL_act 113 = .ok (.iload_n 2, 1) := by decide +kernel
theorem dL_act_114 : decode cL_act 114 = .ok (.ifCond .eq 8, 3) := by decide +kernel
theorem dL_act_117 : decode cL_act 117 = .ok (.bipush 14, 2) := by decide +kernel
theorem dL_act_119 : decode cL_act 119 = .ok (.goto 5, 3) := by decide +kernel
theorem dL_act_122 : decode cL_act 122 = .ok (.bipush 12, 2) := by decide +kernel
theorem dL_act_124 : decode cL_act 124 = .ok (.invokestatic 34, 3) := by decide +kernel
theorem dL_act_127 : decode cL_act 127 = .ok (.iload_n 1, 1) := by decide +kernel
theorem dL_act_128 : decode cL_act 128 = .ok (.bipush 9, 2) := by decide +kernel
theorem dL_act_130 : decode cL_act 130 = .ok (.ishr, 1) := by decide +kernel
theorem dL_act_131 : decode cL_act 131 = .ok (.iload_n 2, 1) := by decide +kernel
theorem dL_act_132 : decode cL_act 132 = .ok (.ifCond .eq 8, 3) := by decide +kernel
theorem dL_act_135 : decode cL_act 135 = .ok (.bipush 10, 2) := by decide +kernel
theorem dL_act_137 : decode cL_act 137 = .ok (.goto 5, 3) := by decide +kernel
theorem dL_act_140 : decode cL_act 140 = .ok (.bipush 8, 2) := by decide +kernel
theorem dL_act_142 : decode cL_act 142 = .ok (.invokestatic 34, 3) := by decide +kernel
theorem dL_act_145 : decode cL_act 145 = .ok (.invokestatic 39, 3) := by decide +kernel
theorem dL_act_148 : decode cL_act 148 = .ok (.ireturn, 1) := by decide +kernel
theorem dL_act_149 : decode cL_act 149 = .ok (.aload_n 0, 1) := by decide +kernel
theorem dL_act_150 : decode cL_act 150 = .ok (.iload_n 1, 1) := by decide +kernel
theorem dL_act_151 : decode cL_act 151 = .ok (.iconst 5, 1) := by decide +kernel
theorem dL_act_152 : decode cL_act 152 = .ok (.ishr, 1) := by decide +kernel
theorem dL_act_153 : decode cL_act 153 = .ok (.iload_n 2, 1) := by decide +kernel
theorem dL_act_154 : decode cL_act 154 = .ok (.ifCond .eq 8, 3) := by decide +kernel
theorem dL_act_157 : decode cL_act 157 = .ok (.bipush 120, 2) := by decide +kernel
theorem dL_act_159 : decode cL_act 159 = .ok (.goto 5, 3) := by decide +kernel
theorem dL_act_162 : decode cL_act 162 = .ok (.bipush 101, 2) := by decide +kernel
theorem dL_act_164 : decode cL_act 164 = .ok (.invokestatic 34, 3) := by decide +kernel
theorem dL_act_167 : decode cL_act 167 = .ok (.iload_n 1, 1) := by decide +kernel
theorem dL_act_168 : decode cL_act 168 = .ok (.bipush 8, 2) := by decide +kernel
theorem dL_act_170 : decode cL_act 170 = .ok (.ishr, 1) := by decide +kernel
theorem dL_act_171 : decode cL_act 171 = .ok (.iload_n 2, 1) := by decide +kernel
theorem dL_act_172 : decode cL_act 172 = .ok (.ifCond .eq 9, 3) := by decide +kernel
theorem dL_act_175 : decode cL_act 175 = .ok (.sipush 700, 3) := by decide +kernel
theorem dL_act_178 : decode cL_act 178 = .ok (.goto 6, 3) := by decide +kernel
theorem dL_act_181 : decode cL_act 181 = .ok (.sipush 601, 3) := by decide +kernel
theorem dL_act_184 : decode cL_act 184 = .ok (.invokestatic 34, 3) := by decide +kernel
theorem dL_act_187 : decode cL_act 187 = .ok (.iload_n 1, 1) := by decide +kernel
theorem dL_act_188 : decode cL_act 188 = .ok (.bipush 11, 2) := by decide +kernel
theorem dL_act_190 : decode cL_act 190 = .ok (.ishr, 1) := by decide +kernel
theorem dL_act_191 : decode cL_act 191 = .ok (.iload_n 2, 1) := by decide +kernel
theorem dL_act_192 : decode cL_act 192 = .ok (.ifCond .eq 9, 3) := by decide +kernel
theorem dL_act_195 : decode cL_act 195 = .ok (.sipush 13000, 3) := by decide +kernel
theorem dL_act_198 : decode cL_act 198 = .ok (.goto 6, 3) := by decide +kernel
theorem dL_act_201 : decode cL_act 201 = .ok (.sipush 1500, 3) := by decide +kernel
theorem dL_act_204 : decode cL_act 204 = .ok (.invokestatic 34, 3) := by decide +kernel
theorem dL_act_207 : decode cL_act 207 = .ok (.invokestatic 43, 3) := by decide +kernel
theorem dL_act_210 : decode cL_act 210 = .ok (.ifCond .eq 7, 3) := by decide +kernel
theorem dL_act_213 : decode cL_act 213 = .ok (.iconst 1, 1) := by decide +kernel
theorem dL_act_214 : decode cL_act 214 = .ok (.goto 5, 3) := by decide +kernel
theorem dL_act_217 : decode cL_act 217 = .ok (.ldc 16, 2) := by decide +kernel
theorem dL_act_219 : decode cL_act 219 = .ok (.ireturn, 1) := by decide +kernel
theorem dL_act_220 : decode cL_act 220 = .ok (.aload_n 0, 1) := by decide +kernel
theorem dL_act_221 : decode cL_act 221 = .ok (.iload_n 3, 1) := by decide +kernel
theorem dL_act_222 : decode cL_act 222 = .ok (.invokestatic 47, 3) := by decide +kernel
theorem dL_act_225 : decode cL_act 225 = .ok (.ireturn, 1) := by decide +kernel
theorem dL_act_226 : decode cL_act 226 = .ok (.aload_n 0, 1) := by decide +kernel
theorem dL_act_227 : decode cL_act 227 = .ok (.iload_n 3, 1) := by decide +kernel
theorem dL_act_228 : decode cL_act 228 = .ok (.iload 4, 2) := by decide +kernel
theorem dL_act_230 : decode cL_act 230 = .ok (.iload_n 1, 1) := by decide +kernel
theorem dL_act_231 : decode cL_act 231 = .ok (.bipush 9, 2) := by decide +kernel
theorem dL_act_233 : decode cL_act 233 = .ok (.ishr, 1) := by decide +kernel
theorem dL_act_234 : decode cL_act 234 = .ok (.iload_n 2, 1) := by decide +kernel
theorem dL_act_235 : decode cL_act 235 = .ok (.ifCond .eq 9, 3) := by decide +kernel
theorem dL_act_238 : decode cL_act 238 = .ok (.sipush 13000, 3) := by decide +kernel
theorem dL_act_241 : decode cL_act 241 = .ok (.goto 6, 3) := by decide +kernel
theorem dL_act_244 : decode cL_act 244 = .ok (.sipush 12001, 3) := by decide +kernel
theorem dL_act_247 : decode cL_act 247 = .ok (.invokestatic 34, 3) := by decide +kernel
theorem dL_act_250 : decode cL_act 250 = .ok (.iload_n 1, 1) := by decide +kernel
theorem dL_act_251 : decode cL_act 251 = .ok (.bipush 13, 2) := by decide +kernel
theorem dL_act_253 : decode cL_act 253 = .ok (.ishr, 1) := by decide +kernel
theorem dL_act_254 : decode cL_act 254 = .ok (.iload_n 2, 1) := by decide +kernel
theorem dL_act_255 : decode cL_act 255 = .ok (.ifCond .eq 8, 3) := by decide +kernel
theorem dL_act_258 : decode cL_act 258 = .ok (.bipush 55, 2) := by decide +kernel
theorem dL_act_260 : decode cL_act 260 = .ok (.goto 5, 3) := by decide +kernel
theorem dL_act_263 : decode cL_act 263 = .ok (.bipush 49, 2) := by decide +kernel
theorem dL_act_265 : decode cL_act 265 = .ok (.invokestatic 34, 3) := by decide +kernel
theorem dL_act_268 : decode cL_act 268 = .ok (.iload_n 2, 1) := by decide +kernel
theorem dL_act_269 : decode cL_act 269 = .ok (.ifCond .eq 7, 3) := by decide +kernel
theorem dL_act_272 : decode cL_act 272 = .ok (.iconst 0, 1) := by decide +kernel
theorem dL_act_273 : decode cL_act 273 = .ok (.goto 4, 3) := by decide +kernel
theorem dL_act_276 : decode cL_act 276 = .ok (.iconst 2, 1) := by decide +kernel
theorem dL_act_277 : decode cL_act 277 = .ok (.iadd, 1) := by decide +kernel
theorem dL_act_278 : decode cL_act 278 = .ok (.invokestatic 50, 3) := by decide +kernel
theorem dL_act_281 : decode cL_act 281 = .ok (.ireturn, 1) := by decide +kernel
theorem dL_act_282 : decode cL_act 282 = .ok (.aload_n 0, 1) := by decide +kernel
theorem dL_act_283 : decode cL_act 283 = .ok (.iload_n 3, 1) := by decide +kernel
theorem dL_act_284 : decode cL_act 284 = .ok (.iload_n 2, 1) := by decide +kernel
theorem dL_act_285 : decode cL_act 285 = .ok (.ifCond .ne 46, 3) := by decide +kernel
theorem dL_act_288 : decode cL_act 288 = .ok (.aload_n 0, 1) := by decide +kernel
theorem dL_act_289 : decode cL_act 289 = .ok (.iload_n 3, 1) := by decide +kernel
theorem dL_act_290 : decode cL_act 290 = .ok (.invokevirtual 53, 3) := by decide +kernel
theorem dL_act_293 : decode cL_act 293 = .ok (.bipush 100, 2) := by decide +kernel
theorem dL_act_295 : decode cL_act 295 = .ok (.if_icmp .le 36, 3) := by decide +kernel
theorem dL_act_298 : decode cL_act 298 = .ok (.aload_n 0, 1) := by decide +kernel
theorem dL_act_299 : decode cL_act 299 = .ok (.iload_n 3, 1) := by decide +kernel
theorem dL_act_300 : decode cL_act 300 = .ok (.invokevirtual 53, 3) := by decide +kernel
theorem dL_act_303 : decode cL_act 303 = .ok (.sipush 11900, 3) := by decide +kernel
theorem dL_act_306 : decode cL_act 306 = .ok (.if_icmp .ge 25, 3) := by decide +kernel
theorem dL_act_309 : decode cL_act 309 = .ok (.aload_n 0, 1) := by decide +kernel
theorem dL_act_310 : decode cL_act 310 = .ok (.iload_n 3, 1) := by decide +kernel
theorem dL_act_311 : decode cL_act 311 = .ok (.invokevirtual 53, 3) := by decide +kernel
theorem dL_act_314 : decode cL_act 314 = .ok (.iload_n 1, 1) := by decide +kernel
theorem dL_act_315 : decode cL_act 315 = .ok (.bipush 6, 2) := by decide +kernel
theorem dL_act_317 : decode cL_act 317 = .ok (.ishr, 1) := by decide +kernel
theorem dL_act_318 : decode cL_act 318 = .ok (.sipush 161, 3) := by decide +kernel
theorem dL_act_321 : decode cL_act 321 = .ok (.invokestatic 34, 3) := by decide +kernel
theorem dL_act_324 : decode cL_act 324 = .ok (.iadd, 1) := by decide +kernel
theorem dL_act_325 : decode cL_act 325 = .ok (.bipush 80, 2) := by decide +kernel
theorem dL_act_327 : decode cL_act 327 = .ok (.isub, 1) := by decide +kernel
theorem dL_act_328 : decode cL_act 328 = .ok (.goto 5, 3) := by decide +kernel
theorem dL_act_331 : decode cL_act 331 = .ok (.iload 4, 2) := by decide +kernel
theorem dL_act_333 : decode cL_act 333 = .ok (.invokestatic 56, 3) := by decide +kernel
theorem dL_act_336 : decode cL_act 336 = .ok (.ireturn, 1) := by decide +kernel
theorem dL_act_337 : decode cL_act 337 = .ok (.aload_n 0, 1) := by decide +kernel
theorem dL_act_338 : decode cL_act 338 = .ok (.iload_n 3, 1) := by decide +kernel
theorem dL_act_339 : decode cL_act 339 = .ok (.iload 4, 2) := by decide +kernel
theorem dL_act_341 : decode cL_act 341 = .ok (.invokestatic 56, 3) := by decide +kernel
theorem dL_act_344 : decode cL_act 344 = .ok (.ireturn, 1) := by decide +kernel
set_option maxRecDepth 20000 in
theorem ggL_areAlike_X0_rungs : GoodIn wsL_areAlike wsX0_rungs := goodIn_r _ [5, 6, 7, 8, 4, 9, 10, 11, 12, 13, 14, 15, 16, 17, 18, 19, 20, 21, 22, 23, 131, 132, 133, 134, 135, 136, 137, 138, 139, 140, 141, 142] (by decide +kernel) (by decide +kernel)
set_option maxRecDepth 20000 in
theorem gL_areAlike_X0_rungs : GoodIn wsL_areAlike (wsV RL 58 RX0 yX0_rungs wsX0_rungs) := goodIn_app (goodIn_of _ (by decide +kernel)) ggL_areAlike_X0_rungs
set_option maxRecDepth 20000 in
theorem ggL_areAlike_X0_rung : GoodIn wsL_areAlike wsX0_rung := goodIn_ca (goodIn_r _ [27, 28, 29, 6, 7, 8, 4, 9, 10, 11, 12, 13, 14, 15, 16, 17, 18, 19, 20, 21, 22, 23, 131, 132, 133, 134, 135, 136, 137, 138, 139, 140, 141, 142] (by decide +kernel) (by decide +kernel)) (goodIn_sub (fun _ h => List.mem_cons_of_mem _ (List.mem_append_left _ (List.mem_append_right _ h))) (by decide +kernel))
set_option maxRecDepth 20000 in
theorem gL_areAlike_X0_rung : GoodIn wsL_areAlike (wsV RL 62 RX0 yX0_rung wsX0_rung) := goodIn_app (goodIn_of _ (by decide +kernel)) ggL_areAlike_X0_rung
set_option maxRecDepth 20000 in
theorem ggL_areAlike_X0_inOctaves : GoodIn wsL_areAlike wsX0_inOctaves := goodIn_r _ [33, 34, 35, 36, 4, 37, 131, 132, 133, 134, 135, 136, 137, 138, 139, 140, 141, 142] (by decide +kernel) (by decide +kernel)
set_option maxRecDepth 20000 in
theorem gL_areAlike_X0_inOctaves : GoodIn wsL_areAlike (wsV RL 65 RX0 yX0_inOctaves wsX0_inOctaves) := goodIn_app (goodIn_of _ (by decide +kernel)) ggL_areAlike_X0_inOctaves
set_option maxRecDepth 20000 in
theorem ggL_areAlike_X0_rungOf : GoodIn wsL_areAlike wsX0_rungOf := goodIn_ca (goodIn_r _ [41, 34, 42, 43, 4, 44, 28, 29, 131, 132, 133, 134, 135, 136, 137, 138, 139, 140, 141, 142] (by decide +kernel) (by decide +kernel)) (goodIn_sub (fun _ h => List.mem_cons_of_mem _ (List.mem_append_left _ (List.mem_append_right _ h))) (by decide +kernel))
set_option maxRecDepth 20000 in
theorem gL_areAlike_X0_rungOf : GoodIn wsL_areAlike (wsV RL 53 RX0 yX0_rungOf wsX0_rungOf) := goodIn_app (goodIn_of _ (by decide +kernel)) ggL_areAlike_X0_rungOf
set_option maxRecDepth 20000 in
theorem ggL_areAlike_X0_nudgeOf : GoodIn wsL_areAlike wsX0_nudgeOf := goodIn_ca (goodIn_r _ [48, 49, 42, 43, 4, 44, 28, 29, 131, 132, 133, 134, 135, 136, 137, 138, 139, 140, 141, 142] (by decide +kernel) (by decide +kernel)) (goodIn_sub (fun _ h => List.mem_cons_of_mem _ (List.mem_append_left _ (List.mem_append_right _ h))) (by decide +kernel))
set_option maxRecDepth 20000 in
theorem gL_areAlike_X0_nudgeOf : GoodIn wsL_areAlike (wsV RL 68 RX0 yX0_nudgeOf wsX0_nudgeOf) := goodIn_app (goodIn_of _ (by decide +kernel)) ggL_areAlike_X0_nudgeOf
set_option maxRecDepth 20000 in
theorem ggL_areAlike_X0_framesOf : GoodIn wsL_areAlike wsX0_framesOf := goodIn_ca (goodIn_r _ [53, 54, 42, 43, 4, 44, 28, 29, 131, 132, 133, 134, 135, 136, 137, 138, 139, 140, 141, 142] (by decide +kernel) (by decide +kernel)) (goodIn_sub (fun _ h => List.mem_cons_of_mem _ (List.mem_append_left _ (List.mem_append_right _ h))) (by decide +kernel))
set_option maxRecDepth 20000 in
theorem gL_areAlike_X0_framesOf : GoodIn wsL_areAlike (wsV RL 71 RX0 yX0_framesOf wsX0_framesOf) := goodIn_app (goodIn_of _ (by decide +kernel)) ggL_areAlike_X0_framesOf
set_option maxRecDepth 20000 in
theorem ggL_areAlike_X0_changesOf : GoodIn wsL_areAlike wsX0_changesOf := goodIn_ca (goodIn_r _ [58, 59, 42, 43, 4, 44, 28, 29, 131, 132, 133, 134, 135, 136, 137, 138, 139, 140, 141, 142] (by decide +kernel) (by decide +kernel)) (goodIn_sub (fun _ h => List.mem_cons_of_mem _ (List.mem_append_left _ (List.mem_append_right _ h))) (by decide +kernel))
set_option maxRecDepth 20000 in
theorem gL_areAlike_X0_changesOf : GoodIn wsL_areAlike (wsV RL 74 RX0 yX0_changesOf wsX0_changesOf) := goodIn_app (goodIn_of _ (by decide +kernel)) ggL_areAlike_X0_changesOf
set_option maxRecDepth 20000 in
theorem ggL_areAlike_X0_leapsOf : GoodIn wsL_areAlike wsX0_leapsOf := goodIn_ca (goodIn_r _ [63, 64, 42, 43, 4, 44, 28, 29, 131, 132, 133, 134, 135, 136, 137, 138, 139, 140, 141, 142] (by decide +kernel) (by decide +kernel)) (goodIn_sub (fun _ h => List.mem_cons_of_mem _ (List.mem_append_left _ (List.mem_append_right _ h))) (by decide +kernel))
set_option maxRecDepth 20000 in
theorem gL_areAlike_X0_leapsOf : GoodIn wsL_areAlike (wsV RL 77 RX0 yX0_leapsOf wsX0_leapsOf) := goodIn_app (goodIn_of _ (by decide +kernel)) ggL_areAlike_X0_leapsOf
set_option maxRecDepth 20000 in
theorem ggL_areAlike_X0_cleanOf : GoodIn wsL_areAlike wsX0_cleanOf := goodIn_ca (goodIn_r _ [68, 69, 42, 43, 4, 44, 28, 29, 131, 132, 133, 134, 135, 136, 137, 138, 139, 140, 141, 142] (by decide +kernel) (by decide +kernel)) (goodIn_sub (fun _ h => List.mem_cons_of_mem _ (List.mem_append_left _ (List.mem_append_right _ h))) (by decide +kernel))
set_option maxRecDepth 20000 in
theorem gL_areAlike_X0_cleanOf : GoodIn wsL_areAlike (wsV RL 80 RX0 yX0_cleanOf wsX0_cleanOf) := goodIn_app (goodIn_of _ (by decide +kernel)) ggL_areAlike_X0_cleanOf
set_option maxRecDepth 20000 in
theorem ggL_areAlike_X0_framesToRung : GoodIn wsL_areAlike wsX0_framesToRung := goodIn_ca (goodIn_ca (goodIn_r _ [73, 34, 42, 43, 4, 44, 28, 29, 74, 75, 76, 77, 78, 79, 80, 81, 82, 83, 84, 85, 86, 87, 88, 89, 90, 91, 92, 93, 94, 95, 96, 97, 98, 10, 11, 12, 13, 14, 15, 16, 17, 18, 19, 20, 21, 22, 23, 99, 100, 101, 102, 103, 104, 105, 106, 49, 107, 108, 109, 110, 111, 112, 113, 114, 115, 116, 117, 118, 119, 120, 121, 122, 123, 124, 125, 131, 132, 133, 134, 135, 136, 137, 138, 139, 140, 141, 142] (by decide +kernel) (by decide +kernel)) (goodIn_sub (fun _ h => List.mem_cons_of_mem _ (List.mem_append_left _ (List.mem_append_right _ h))) (by decide +kernel))) (goodIn_sub (fun _ h => List.mem_cons_of_mem _ (List.mem_append_right _ h)) (by decide +kernel))
set_option maxRecDepth 20000 in
theorem gL_areAlike_X0_framesToRung : GoodIn wsL_areAlike (wsV RL 83 RX0 yX0_framesToRung wsX0_framesToRung) := goodIn_app (goodIn_of _ (by decide +kernel)) ggL_areAlike_X0_framesToRung
set_option maxRecDepth 20000 in
theorem ggL_areAlike_X0_sung : GoodIn wsL_areAlike wsX0_sung := goodIn_ca (goodIn_r _ [129, 28, 29, 130, 131, 132, 133, 134, 135, 136, 137, 138, 139, 140, 141, 142] (by decide +kernel) (by decide +kernel)) (goodIn_sub (fun _ h => List.mem_cons_of_mem _ (List.mem_append_left _ (List.mem_append_right _ h))) (by decide +kernel))
set_option maxRecDepth 20000 in
theorem gL_areAlike_X0_sung : GoodIn wsL_areAlike (wsV RL 86 RX0 yX0_sung wsX0_sung) := goodIn_app (goodIn_of _ (by decide +kernel)) ggL_areAlike_X0_sung
theorem dL_areAlike_0 : decode cL_areAlike 0 = .ok (.aload_n 0, 1) := by decide +kernel
theorem dL_areAlike_1 : decode cL_areAlike 1 = .ok (.invokevirtual 58, 3) := by decide +kernel
theorem dL_areAlike_4 : decode cL_areAlike 4 = .ok (.aload_n 1, 1) := by decide +kernel
theorem dL_areAlike_5 : decode cL_areAlike 5 = .ok (.invokevirtual 58, 3) := by decide +kernel
theorem dL_areAlike_8 : decode cL_areAlike 8 = .ok (.if_icmp .ne 57, 3) := by decide +kernel
theorem dL_areAlike_11 : decode cL_areAlike 11 = .ok (.aload_n 0, 1) := by decide +kernel
theorem dL_areAlike_12 : decode cL_areAlike 12 = .ok (.iconst 0, 1) := by decide +kernel
theorem dL_areAlike_13 : decode cL_areAlike 13 = .ok (.invokevirtual 62, 3) := by decide +kernel
theorem dL_areAlike_16 : decode cL_areAlike 16 = .ok (.aload_n 1, 1) := by decide +kernel
theorem dL_areAlike_17 : decode cL_areAlike 17 = .ok (.iconst 0, 1) := by decide +kernel
theorem dL_areAlike_18 : decode cL_areAlike 18 = .ok (.invokevirtual 62, 3) := by decide +kernel
theorem dL_areAlike_21 : decode cL_areAlike 21 = .ok (.if_icmp .ne 44, 3) := by decide +kernel
theorem dL_areAlike_24 : decode cL_areAlike 24 = .ok (.aload_n 0, 1) := by decide +kernel
theorem dL_areAlike_25 : decode cL_areAlike 25 = .ok (.iconst 1, 1) := by decide +kernel
theorem dL_areAlike_26 : decode cL_areAlike 26 = .ok (.invokevirtual 62, 3) := by decide +kernel
theorem dL_areAlike_29 : decode cL_areAlike 29 = .ok (.aload_n 1, 1) := by decide +kernel
theorem dL_areAlike_30 : decode cL_areAlike 30 = .ok (.iconst 1, 1) := by decide +kernel
theorem dL_areAlike_31 : decode cL_areAlike 31 = .ok (.invokevirtual 62, 3) := by decide +kernel
theorem dL_areAlike_34 : decode cL_areAlike 34 = .ok (.if_icmp .ne 31, 3) := by decide +kernel
theorem dL_areAlike_37 : decode cL_areAlike 37 = .ok (.aload_n 0, 1) := by decide +kernel
theorem dL_areAlike_38 : decode cL_areAlike 38 = .ok (.iconst 3, 1) := by decide +kernel
theorem dL_areAlike_39 : decode cL_areAlike 39 = .ok (.invokevirtual 62, 3) := by decide +kernel
theorem dL_areAlike_42 : decode cL_areAlike 42 = .ok (.aload_n 1, 1) := by decide +kernel
theorem dL_areAlike_43 : decode cL_areAlike 43 = .ok (.iconst 3, 1) := by decide +kernel
theorem dL_areAlike_44 : decode cL_areAlike 44 = .ok (.invokevirtual 62, 3) := by decide +kernel
theorem dL_areAlike_47 : decode cL_areAlike 47 = .ok (.if_icmp .ne 18, 3) := by decide +kernel
theorem dL_areAlike_50 : decode cL_areAlike 50 = .ok (.aload_n 0, 1) := by decide +kernel
theorem dL_areAlike_51 : decode cL_areAlike 51 = .ok (.invokevirtual 65, 3) := by decide +kernel
theorem dL_areAlike_54 : decode cL_areAlike 54 = .ok (.aload_n 1, 1) := by decide +kernel
theorem dL_areAlike_55 : decode cL_areAlike 55 = .ok (.invokevirtual 65, 3) := by decide +kernel
theorem dL_areAlike_58 : decode cL_areAlike 58 = .ok (.if_icmp .ne 7, 3) := by decide +kernel
theorem dL_areAlike_61 : decode cL_areAlike 61 = .ok (.iconst 1, 1) := by decide +kernel
theorem dL_areAlike_62 : decode cL_areAlike 62 = .ok (.goto 4, 3) := by decide +kernel
theorem dL_areAlike_65 : decode cL_areAlike 65 = .ok (.iconst 0, 1) := by decide +kernel
theorem dL_areAlike_66 : decode cL_areAlike 66 = .ok (.istore_n 2, 1) := by decide +kernel
theorem dL_areAlike_67 : decode cL_areAlike 67 = .ok (.iconst 0, 1) := by decide +kernel
theorem dL_areAlike_68 : decode cL_areAlike 68 = .ok (.istore_n 3, 1) := by decide +kernel
theorem dL_areAlike_69 : decode cL_areAlike 69 = .ok (.iload_n 3, 1) := by decide +kernel
theorem dL_areAlike_70 : decode cL_areAlike 70 = .ok (.iconst 4, 1) := by decide +kernel
theorem dL_areAlike_71 : decode cL_areAlike 71 = .ok (.if_icmp .ge 116, 3) := by decide +kernel
theorem dL_areAlike_74 : decode cL_areAlike 74 = .ok (.iload_n 2, 1) := by decide +kernel
theorem dL_areAlike_75 : decode cL_areAlike 75 = .ok (.ifCond .eq 104, 3) := by decide +kernel
theorem dL_areAlike_78 : decode cL_areAlike 78 = .ok (.aload_n 0, 1) := by decide +kernel
theorem dL_areAlike_79 : decode cL_areAlike 79 = .ok (.iload_n 3, 1) := by decide +kernel
theorem dL_areAlike_80 : decode cL_areAlike 80 = .ok (.invokevirtual 53, 3) := by decide +kernel
theorem dL_areAlike_83 : decode cL_areAlike 83 = .ok (.aload_n 1, 1) := by decide +kernel
theorem dL_areAlike_84 : decode cL_areAlike 84 = .ok (.iload_n 3, 1) := by decide +kernel
theorem dL_areAlike_85 : decode cL_areAlike 85 = .ok (.invokevirtual 53, 3) := by decide +kernel
theorem dL_areAlike_88 : decode cL_areAlike 88 = .ok (.if_icmp .ne 91, 3) := by decide +kernel
theorem dL_areAlike_91 : decode cL_areAlike 91 = .ok (.aload_n 0, 1) := by decide +kernel
theorem dL_areAlike_92 : decode cL_areAlike 92 = .ok (.iload_n 3, 1) := by decide +kernel
theorem dL_areAlike_93 : decode cL_areAlike 93 = .ok (.invokevirtual 68, 3) := by decide +kernel
theorem dL_areAlike_96 : decode cL_areAlike 96 = .ok (.aload_n 1, 1) := by decide +kernel
theorem dL_areAlike_97 : decode cL_areAlike 97 = .ok (.iload_n 3, 1) := by decide +kernel
theorem dL_areAlike_98 : decode cL_areAlike 98 = .ok (.invokevirtual 68, 3) := by decide +kernel
theorem dL_areAlike_101 : decode cL_areAlike 101 = .ok (.if_icmp .ne 78, 3) := by decide +kernel
theorem dL_areAlike_104 : decode cL_areAlike 104 = .ok (.aload_n 0, 1) := by decide +kernel
theorem dL_areAlike_105 : decode cL_areAlike 105 = .ok (.iload_n 3, 1) := by decide +kernel
theorem dL_areAlike_106 : decode cL_areAlike 106 = .ok (.invokevirtual 71, 3) := by decide +kernel
theorem dL_areAlike_109 : decode cL_areAlike 109 = .ok (.aload_n 1, 1) := by decide +kernel
theorem dL_areAlike_110 : decode cL_areAlike 110 = .ok (.iload_n 3, 1) := by decide +kernel
theorem dL_areAlike_111 : decode cL_areAlike 111 = .ok (.invokevirtual 71, 3) := by decide +kernel
theorem dL_areAlike_114 : decode cL_areAlike 114 = .ok (.if_icmp .ne 65, 3) := by decide +kernel
theorem dL_areAlike_117 : decode cL_areAlike 117 = .ok (.aload_n 0, 1) := by decide +kernel
theorem dL_areAlike_118 : decode cL_areAlike 118 = .ok (.iload_n 3, 1) := by decide +kernel
theorem dL_areAlike_119 : decode cL_areAlike 119 = .ok (.invokevirtual 74, 3) := by decide +kernel
theorem dL_areAlike_122 : decode cL_areAlike 122 = .ok (.aload_n 1, 1) := by decide +kernel
theorem dL_areAlike_123 : decode cL_areAlike 123 = .ok (.iload_n 3, 1) := by decide +kernel
theorem dL_areAlike_124 : decode cL_areAlike 124 = .ok (.invokevirtual 74, 3) := by decide +kernel
theorem dL_areAlike_127 : decode cL_areAlike 127 = .ok (.if_icmp .ne 52, 3) := by decide +kernel
theorem dL_areAlike_130 : decode cL_areAlike 130 = .ok (.aload_n 0, 1) := by decide +kernel
theorem dL_areAlike_131 : decode cL_areAlike 131 = .ok (.iload_n 3, 1) := by decide +kernel
theorem dL_areAlike_132 : decode cL_areAlike 132 = .ok (.invokevirtual 77, 3) := by decide +kernel
theorem dL_areAlike_135 : decode cL_areAlike 135 = .ok (.aload_n 1, 1) := by decide +kernel
theorem dL_areAlike_136 : decode cL_areAlike 136 = .ok (.iload_n 3, 1) := by decide +kernel
theorem dL_areAlike_137 : decode cL_areAlike 137 = .ok (.invokevirtual 77, 3) := by decide +kernel
theorem dL_areAlike_140 : decode cL_areAlike 140 = .ok (.if_icmp .ne 39, 3) := by decide +kernel
theorem dL_areAlike_143 : decode cL_areAlike 143 = .ok (.aload_n 0, 1) := by decide +kernel
theorem dL_areAlike_144 : decode cL_areAlike 144 = .ok (.iload_n 3, 1) := by decide +kernel
theorem dL_areAlike_145 : decode cL_areAlike 145 = .ok (.invokevirtual 80, 3) := by decide +kernel
theorem dL_areAlike_148 : decode cL_areAlike 148 = .ok (.aload_n 1, 1) := by decide +kernel
theorem dL_areAlike_149 : decode cL_areAlike 149 = .ok (.iload_n 3, 1) := by decide +kernel
theorem dL_areAlike_150 : decode cL_areAlike 150 = .ok (.invokevirtual 80, 3) := by decide +kernel
theorem dL_areAlike_153 : decode cL_areAlike 153 = .ok (.if_icmp .ne 26, 3) := by decide +kernel
theorem dL_areAlike_156 : decode cL_areAlike 156 = .ok (.aload_n 0, 1) := by decide +kernel
theorem dL_areAlike_157 : decode cL_areAlike 157 = .ok (.iload_n 3, 1) := by decide +kernel
theorem dL_areAlike_158 : decode cL_areAlike 158 = .ok (.sipush 5555, 3) := by decide +kernel
theorem dL_areAlike_161 : decode cL_areAlike 161 = .ok (.invokevirtual 83, 3) := by decide +kernel
theorem dL_areAlike_164 : decode cL_areAlike 164 = .ok (.aload_n 1, 1) := by decide +kernel
theorem dL_areAlike_165 : decode cL_areAlike 165 = .ok (.iload_n 3, 1) := by decide +kernel
theorem dL_areAlike_166 : decode cL_areAlike 166 = .ok (.sipush 5555, 3) := by decide +kernel
theorem dL_areAlike_169 : decode cL_areAlike 169 = .ok (.invokevirtual 83, 3) := by decide +kernel
theorem dL_areAlike_172 : decode cL_areAlike 172 = .ok (.if_icmp .ne 7, 3) := by decide +kernel
theorem dL_areAlike_175 : decode cL_areAlike 175 = .ok (.iconst 1, 1) := by decide +kernel
theorem dL_areAlike_176 : decode cL_areAlike 176 = .ok (.goto 4, 3) := by decide +kernel
theorem dL_areAlike_179 : decode cL_areAlike 179 = .ok (.iconst 0, 1) := by decide +kernel
theorem dL_areAlike_180 : decode cL_areAlike 180 = .ok (.istore_n 2, 1) := by decide +kernel
theorem dL_areAlike_181 : decode cL_areAlike 181 = .ok (.iinc 3 1, 3) := by decide +kernel
theorem dL_areAlike_184 : decode cL_areAlike 184 = .ok (.goto (-115), 3) := by decide +kernel
theorem dL_areAlike_187 : decode cL_areAlike 187 = .ok (.iconst 0, 1) := by decide +kernel
theorem dL_areAlike_188 : decode cL_areAlike 188 = .ok (.istore_n 3, 1) := by decide +kernel
theorem dL_areAlike_189 : decode cL_areAlike 189 = .ok (.iload_n 3, 1) := by decide +kernel
theorem dL_areAlike_190 : decode cL_areAlike 190 = .ok (.bipush 12, 2) := by decide +kernel
theorem dL_areAlike_192 : decode cL_areAlike 192 = .ok (.if_icmp .ge 32, 3) := by decide +kernel
theorem dL_areAlike_195 : decode cL_areAlike 195 = .ok (.iload_n 2, 1) := by decide +kernel
theorem dL_areAlike_196 : decode cL_areAlike 196 = .ok (.ifCond .eq 20, 3) := by decide +kernel
theorem dL_areAlike_199 : decode cL_areAlike 199 = .ok (.aload_n 0, 1) := by decide +kernel
theorem dL_areAlike_200 : decode cL_areAlike 200 = .ok (.iload_n 3, 1) := by decide +kernel
theorem dL_areAlike_201 : decode cL_areAlike 201 = .ok (.invokevirtual 86, 3) := by decide +kernel
theorem dL_areAlike_204 : decode cL_areAlike 204 = .ok (.aload_n 1, 1) := by decide +kernel
theorem dL_areAlike_205 : decode cL_areAlike 205 = .ok (.iload_n 3, 1) := by decide +kernel
theorem dL_areAlike_206 : decode cL_areAlike 206 = .ok (.invokevirtual 86, 3) := by decide +kernel
theorem dL_areAlike_209 : decode cL_areAlike 209 = .ok (.if_icmp .ne 7, 3) := by decide +kernel
theorem dL_areAlike_212 : decode cL_areAlike 212 = .ok (.iconst 1, 1) := by decide +kernel
theorem dL_areAlike_213 : decode cL_areAlike 213 = .ok (.goto 4, 3) := by decide +kernel
theorem dL_areAlike_216 : decode cL_areAlike 216 = .ok (.iconst 0, 1) := by decide +kernel
theorem dL_areAlike_217 : decode cL_areAlike 217 = .ok (.istore_n 2, 1) := by decide +kernel
theorem dL_areAlike_218 : decode cL_areAlike 218 = .ok (.iinc 3 1, 3) := by decide +kernel
theorem dL_areAlike_221 : decode cL_areAlike 221 = .ok (.goto (-32), 3) := by decide +kernel
theorem dL_areAlike_224 : decode cL_areAlike 224 = .ok (.iload_n 2, 1) := by decide +kernel
theorem dL_areAlike_225 : decode cL_areAlike 225 = .ok (.ireturn, 1) := by decide +kernel
set_option maxRecDepth 20000 in
theorem ggL_areWrensSo_X0_rungOf : GoodIn wsL_areWrensSo wsX0_rungOf := goodIn_ca (goodIn_r _ [5, 6, 7, 8, 4, 9, 10, 11, 68, 69, 70, 71, 72, 73, 74, 75, 76, 77, 78, 79] (by decide +kernel) (by decide +kernel)) (goodIn_sub (fun _ h => List.mem_cons_of_mem _ (List.mem_append_left _ (List.mem_append_right _ h))) (by decide +kernel))
set_option maxRecDepth 20000 in
theorem gL_areWrensSo_X0_rungOf : GoodIn wsL_areWrensSo (wsV RL 53 RX0 yX0_rungOf wsX0_rungOf) := goodIn_app (goodIn_of _ (by decide +kernel)) ggL_areWrensSo_X0_rungOf
set_option maxRecDepth 20000 in
theorem ggL_areWrensSo_X0_framesOf : GoodIn wsL_areWrensSo wsX0_framesOf := goodIn_ca (goodIn_r _ [15, 16, 7, 8, 4, 9, 10, 11, 68, 69, 70, 71, 72, 73, 74, 75, 76, 77, 78, 79] (by decide +kernel) (by decide +kernel)) (goodIn_sub (fun _ h => List.mem_cons_of_mem _ (List.mem_append_left _ (List.mem_append_right _ h))) (by decide +kernel))
set_option maxRecDepth 20000 in
theorem gL_areWrensSo_X0_framesOf : GoodIn wsL_areWrensSo (wsV RL 71 RX0 yX0_framesOf wsX0_framesOf) := goodIn_app (goodIn_of _ (by decide +kernel)) ggL_areWrensSo_X0_framesOf
set_option maxRecDepth 20000 in
theorem ggL_areWrensSo_X0_stepOf : GoodIn wsL_areWrensSo wsX0_stepOf := goodIn_ca (goodIn_r _ [20, 21, 22, 4, 23, 24, 25, 26, 27, 28, 29, 30, 31, 32, 33, 34, 35, 36, 37, 38, 39, 40, 41, 42, 68, 69, 70, 71, 72, 73, 74, 75, 76, 77, 78, 79] (by decide +kernel) (by decide +kernel)) (goodIn_sub (fun _ h => List.mem_cons_of_mem _ (List.mem_append_right _ h)) (by decide +kernel))
set_option maxRecDepth 20000 in
theorem gL_areWrensSo_X0_stepOf : GoodIn wsL_areWrensSo (wsV RL 89 RX0 yX0_stepOf wsX0_stepOf) := goodIn_app (goodIn_of _ (by decide +kernel)) ggL_areWrensSo_X0_stepOf
set_option maxRecDepth 20000 in
theorem ggL_areWrensSo_X0_leapsOf : GoodIn wsL_areWrensSo wsX0_leapsOf := goodIn_ca (goodIn_r _ [46, 47, 7, 8, 4, 9, 10, 11, 68, 69, 70, 71, 72, 73, 74, 75, 76, 77, 78, 79] (by decide +kernel) (by decide +kernel)) (goodIn_sub (fun _ h => List.mem_cons_of_mem _ (List.mem_append_left _ (List.mem_append_right _ h))) (by decide +kernel))
set_option maxRecDepth 20000 in
theorem gL_areWrensSo_X0_leapsOf : GoodIn wsL_areWrensSo (wsV RL 77 RX0 yX0_leapsOf wsX0_leapsOf) := goodIn_app (goodIn_of _ (by decide +kernel)) ggL_areWrensSo_X0_leapsOf
set_option maxRecDepth 20000 in
theorem ggL_areWrensSo_X0_changesOf : GoodIn wsL_areWrensSo wsX0_changesOf := goodIn_ca (goodIn_r _ [51, 52, 7, 8, 4, 9, 10, 11, 68, 69, 70, 71, 72, 73, 74, 75, 76, 77, 78, 79] (by decide +kernel) (by decide +kernel)) (goodIn_sub (fun _ h => List.mem_cons_of_mem _ (List.mem_append_left _ (List.mem_append_right _ h))) (by decide +kernel))
set_option maxRecDepth 20000 in
theorem gL_areWrensSo_X0_changesOf : GoodIn wsL_areWrensSo (wsV RL 74 RX0 yX0_changesOf wsX0_changesOf) := goodIn_app (goodIn_of _ (by decide +kernel)) ggL_areWrensSo_X0_changesOf
set_option maxRecDepth 20000 in
theorem ggL_areWrensSo_X0_cleanOf : GoodIn wsL_areWrensSo wsX0_cleanOf := goodIn_ca (goodIn_r _ [56, 57, 7, 8, 4, 9, 10, 11, 68, 69, 70, 71, 72, 73, 74, 75, 76, 77, 78, 79] (by decide +kernel) (by decide +kernel)) (goodIn_sub (fun _ h => List.mem_cons_of_mem _ (List.mem_append_left _ (List.mem_append_right _ h))) (by decide +kernel))
set_option maxRecDepth 20000 in
theorem gL_areWrensSo_X0_cleanOf : GoodIn wsL_areWrensSo (wsV RL 80 RX0 yX0_cleanOf wsX0_cleanOf) := goodIn_app (goodIn_of _ (by decide +kernel)) ggL_areWrensSo_X0_cleanOf
set_option maxRecDepth 20000 in
theorem ggL_areWrensSo_X0_nudgeOf : GoodIn wsL_areWrensSo wsX0_nudgeOf := goodIn_ca (goodIn_r _ [61, 62, 7, 8, 4, 9, 10, 11, 68, 69, 70, 71, 72, 73, 74, 75, 76, 77, 78, 79] (by decide +kernel) (by decide +kernel)) (goodIn_sub (fun _ h => List.mem_cons_of_mem _ (List.mem_append_left _ (List.mem_append_right _ h))) (by decide +kernel))
set_option maxRecDepth 20000 in
theorem gL_areWrensSo_X0_nudgeOf : GoodIn wsL_areWrensSo (wsV RL 68 RX0 yX0_nudgeOf wsX0_nudgeOf) := goodIn_app (goodIn_of _ (by decide +kernel)) ggL_areWrensSo_X0_nudgeOf
set_option maxRecDepth 20000 in
theorem ggL_areWrensSo_X0_sung : GoodIn wsL_areWrensSo wsX0_sung := goodIn_ca (goodIn_r _ [66, 10, 11, 67, 68, 69, 70, 71, 72, 73, 74, 75, 76, 77, 78, 79] (by decide +kernel) (by decide +kernel)) (goodIn_sub (fun _ h => List.mem_cons_of_mem _ (List.mem_append_left _ (List.mem_append_right _ h))) (by decide +kernel))
set_option maxRecDepth 20000 in
theorem gL_areWrensSo_X0_sung : GoodIn wsL_areWrensSo (wsV RL 86 RX0 yX0_sung wsX0_sung) := goodIn_app (goodIn_of _ (by decide +kernel)) ggL_areWrensSo_X0_sung
theorem dL_areWrensSo_0 : decode cL_areWrensSo 0 = .ok (.iconst 0, 1) := by decide +kernel
theorem dL_areWrensSo_1 : decode cL_areWrensSo 1 = .ok (.istore_n 1, 1) := by decide +kernel
theorem dL_areWrensSo_2 : decode cL_areWrensSo 2 = .ok (.iconst 0, 1) := by decide +kernel
theorem dL_areWrensSo_3 : decode cL_areWrensSo 3 = .ok (.istore_n 2, 1) := by decide +kernel
theorem dL_areWrensSo_4 : decode cL_areWrensSo 4 = .ok (.iconst 0, 1) := by decide +kernel
theorem dL_areWrensSo_5 : decode cL_areWrensSo 5 = .ok (.istore_n 3, 1) := by decide +kernel
theorem dL_areWrensSo_6 : decode cL_areWrensSo 6 = .ok (.iload_n 3, 1) := by decide +kernel
theorem dL_areWrensSo_7 : decode cL_areWrensSo 7 = .ok (.iconst 4, 1) := by decide +kernel
theorem dL_areWrensSo_8 : decode cL_areWrensSo 8 = .ok (.if_icmp .ge 107, 3) := by decide +kernel
theorem dL_areWrensSo_11 : decode cL_areWrensSo 11 = .ok (.aload_n 0, 1) := by decide +kernel
theorem dL_areWrensSo_12 : decode cL_areWrensSo 12 = .ok (.iload_n 3, 1) := by decide +kernel
theorem dL_areWrensSo_13 : decode cL_areWrensSo 13 = .ok (.invokevirtual 53, 3) := by decide +kernel
theorem dL_areWrensSo_16 : decode cL_areWrensSo 16 = .ok (.istore 4, 2) := by decide +kernel
theorem dL_areWrensSo_18 : decode cL_areWrensSo 18 = .ok (.iload_n 1, 1) := by decide +kernel
theorem dL_areWrensSo_19 : decode cL_areWrensSo 19 = .ok (.aload_n 0, 1) := by decide +kernel
theorem dL_areWrensSo_20 : decode cL_areWrensSo 20 = .ok (.iload_n 3, 1) := by decide +kernel
theorem dL_areWrensSo_21 : decode cL_areWrensSo 21 = .ok (.invokevirtual 71, 3) := by decide +kernel
theorem dL_areWrensSo_24 : decode cL_areWrensSo 24 = .ok (.iadd, 1) := by decide +kernel
theorem dL_areWrensSo_25 : decode cL_areWrensSo 25 = .ok (.istore_n 1, 1) := by decide +kernel
theorem dL_areWrensSo_26 : decode cL_areWrensSo 26 = .ok (.iload 4, 2) := by decide +kernel
theorem dL_areWrensSo_28 : decode cL_areWrensSo 28 = .ok (.iconst (-1), 1) := by decide +kernel
theorem dL_areWrensSo_29 : decode cL_areWrensSo 29 = .ok (.if_icmp .lt 78, 3) := by decide +kernel
theorem dL_areWrensSo_32 : decode cL_areWrensSo 32 = .ok (.iload 4, 2) := by decide +kernel
theorem dL_areWrensSo_34 : decode cL_areWrensSo 34 = .ok (.ifCond .lt 12, 3) := by decide +kernel
theorem dL_areWrensSo_37 : decode cL_areWrensSo 37 = .ok (.aload_n 0, 1) := by decide +kernel
theorem dL_areWrensSo_38 : decode cL_areWrensSo 38 = .ok (.iload 4, 2) := by decide +kernel
theorem dL_areWrensSo_40 : decode cL_areWrensSo 40 = .ok (.invokevirtual 89, 3) := by decide +kernel
theorem dL_areWrensSo_43 : decode cL_areWrensSo 43 = .ok (.ifCond .lt 64, 3) := by decide +kernel
theorem dL_areWrensSo_46 : decode cL_areWrensSo 46 = .ok (.aload_n 0, 1) := by decide +kernel
theorem dL_areWrensSo_47 : decode cL_areWrensSo 47 = .ok (.iload_n 3, 1) := by decide +kernel
theorem dL_areWrensSo_48 : decode cL_areWrensSo 48 = .ok (.invokevirtual 77, 3) := by decide +kernel
theorem dL_areWrensSo_51 : decode cL_areWrensSo 51 = .ok (.aload_n 0, 1) := by decide +kernel
theorem dL_areWrensSo_52 : decode cL_areWrensSo 52 = .ok (.iload_n 3, 1) := by decide +kernel
theorem dL_areWrensSo_53 : decode cL_areWrensSo 53 = .ok (.invokevirtual 74, 3) := by decide +kernel
theorem dL_areWrensSo_56 : decode cL_areWrensSo 56 = .ok (.if_icmp .gt 51, 3) := by decide +kernel
theorem dL_areWrensSo_59 : decode cL_areWrensSo 59 = .ok (.aload_n 0, 1) := by decide +kernel
theorem dL_areWrensSo_60 : decode cL_areWrensSo 60 = .ok (.iload_n 3, 1) := by decide +kernel
theorem dL_areWrensSo_61 : decode cL_areWrensSo 61 = .ok (.invokevirtual 74, 3) := by decide +kernel
theorem dL_areWrensSo_64 : decode cL_areWrensSo 64 = .ok (.aload_n 0, 1) := by decide +kernel
theorem dL_areWrensSo_65 : decode cL_areWrensSo 65 = .ok (.iload_n 3, 1) := by decide +kernel
theorem dL_areWrensSo_66 : decode cL_areWrensSo 66 = .ok (.invokevirtual 71, 3) := by decide +kernel
theorem dL_areWrensSo_69 : decode cL_areWrensSo 69 = .ok (.if_icmp .gt 38, 3) := by decide +kernel
theorem dL_areWrensSo_72 : decode cL_areWrensSo 72 = .ok (.aload_n 0, 1) := by decide +kernel
theorem dL_areWrensSo_73 : decode cL_areWrensSo 73 = .ok (.iload_n 3, 1) := by decide +kernel
theorem dL_areWrensSo_74 : decode cL_areWrensSo 74 = .ok (.invokevirtual 80, 3) := by decide +kernel
theorem dL_areWrensSo_77 : decode cL_areWrensSo 77 = .ok (.aload_n 0, 1) := by decide +kernel
theorem dL_areWrensSo_78 : decode cL_areWrensSo 78 = .ok (.iload_n 3, 1) := by decide +kernel
theorem dL_areWrensSo_79 : decode cL_areWrensSo 79 = .ok (.invokevirtual 71, 3) := by decide +kernel
theorem dL_areWrensSo_82 : decode cL_areWrensSo 82 = .ok (.if_icmp .gt 25, 3) := by decide +kernel
theorem dL_areWrensSo_85 : decode cL_areWrensSo 85 = .ok (.aload_n 0, 1) := by decide +kernel
theorem dL_areWrensSo_86 : decode cL_areWrensSo 86 = .ok (.iload_n 3, 1) := by decide +kernel
theorem dL_areWrensSo_87 : decode cL_areWrensSo 87 = .ok (.invokevirtual 68, 3) := by decide +kernel
theorem dL_areWrensSo_90 : decode cL_areWrensSo 90 = .ok (.sipush 12000, 3) := by decide +kernel
theorem dL_areWrensSo_93 : decode cL_areWrensSo 93 = .ok (.if_icmp .gt 14, 3) := by decide +kernel
theorem dL_areWrensSo_96 : decode cL_areWrensSo 96 = .ok (.aload_n 0, 1) := by decide +kernel
theorem dL_areWrensSo_97 : decode cL_areWrensSo 97 = .ok (.iload_n 3, 1) := by decide +kernel
theorem dL_areWrensSo_98 : decode cL_areWrensSo 98 = .ok (.invokevirtual 68, 3) := by decide +kernel
theorem dL_areWrensSo_101 : decode cL_areWrensSo 101 = .ok (.sipush (-12000), 3) := by decide +kernel
theorem dL_areWrensSo_104 : decode cL_areWrensSo 104 = .ok (.if_icmp .ge 5, 3) := by decide +kernel
theorem dL_areWrensSo_107 : decode cL_areWrensSo 107 = .ok (.iconst 0, 1) := by decide +kernel
theorem dL_areWrensSo_108 : decode cL_areWrensSo 108 = .ok (.ireturn, 1) := by decide +kernel
theorem dL_areWrensSo_109 : decode cL_areWrensSo 109 = .ok (.iinc 3 1, 3) := by decide +kernel
theorem dL_areWrensSo_112 : decode cL_areWrensSo 112 = .ok (.goto (-106), 3) := by decide +kernel
theorem dL_areWrensSo_115 : decode cL_areWrensSo 115 = .ok (.iconst 0, 1) := by decide +kernel
theorem dL_areWrensSo_116 : decode cL_areWrensSo 116 = .ok (.istore_n 3, 1) := by decide +kernel
theorem dL_areWrensSo_117 : decode cL_areWrensSo 117 = .ok (.iload_n 3, 1) := by decide +kernel
theorem dL_areWrensSo_118 : decode cL_areWrensSo 118 = .ok (.bipush 12, 2) := by decide +kernel
theorem dL_areWrensSo_120 : decode cL_areWrensSo 120 = .ok (.if_icmp .ge 17, 3) := by decide +kernel
theorem dL_areWrensSo_123 : decode cL_areWrensSo 123 = .ok (.iload_n 2, 1) := by decide +kernel
theorem dL_areWrensSo_124 : decode cL_areWrensSo 124 = .ok (.aload_n 0, 1) := by decide +kernel
theorem dL_areWrensSo_125 : decode cL_areWrensSo 125 = .ok (.iload_n 3, 1) := by decide +kernel
theorem dL_areWrensSo_126 : decode cL_areWrensSo 126 = .ok (.invokevirtual 86, 3) := by decide +kernel
theorem dL_areWrensSo_129 : decode cL_areWrensSo 129 = .ok (.iadd, 1) := by decide +kernel
theorem dL_areWrensSo_130 : decode cL_areWrensSo 130 = .ok (.istore_n 2, 1) := by decide +kernel
theorem dL_areWrensSo_131 : decode cL_areWrensSo 131 = .ok (.iinc 3 1, 3) := by decide +kernel
theorem dL_areWrensSo_134 : decode cL_areWrensSo 134 = .ok (.goto (-17), 3) := by decide +kernel
theorem dL_areWrensSo_137 : decode cL_areWrensSo 137 = .ok (.iload_n 1, 1) := by decide +kernel
theorem dL_areWrensSo_138 : decode cL_areWrensSo 138 = .ok (.iload_n 2, 1) := by decide +kernel
theorem dL_areWrensSo_139 : decode cL_areWrensSo 139 = .ok (.if_icmp .ne 7, 3) := by decide +kernel
theorem dL_areWrensSo_142 : decode cL_areWrensSo 142 = .ok (.iconst 1, 1) := by decide +kernel
theorem dL_areWrensSo_143 : decode cL_areWrensSo 143 = .ok (.goto 4, 3) := by decide +kernel
theorem dL_areWrensSo_146 : decode cL_areWrensSo 146 = .ok (.iconst 0, 1) := by decide +kernel
theorem dL_areWrensSo_147 : decode cL_areWrensSo 147 = .ok (.ireturn, 1) := by decide +kernel
set_option maxRecDepth 20000 in
theorem ggL_isScaleSo_X0_rungs : GoodIn wsL_isScaleSo wsX0_rungs := goodIn_r _ [5, 6, 7, 8, 4, 9, 10, 11, 12, 13, 14, 15, 16, 17, 18, 19, 20, 21, 22, 23, 58, 59, 60, 61, 62, 63, 64, 65, 66, 67, 68, 69] (by decide +kernel) (by decide +kernel)
set_option maxRecDepth 20000 in
theorem gL_isScaleSo_X0_rungs : GoodIn wsL_isScaleSo (wsV RL 58 RX0 yX0_rungs wsX0_rungs) := goodIn_app (goodIn_of _ (by decide +kernel)) ggL_isScaleSo_X0_rungs
set_option maxRecDepth 20000 in
theorem ggL_isScaleSo_X0_nearest : GoodIn wsL_isScaleSo wsX0_nearest := goodIn_ca (goodIn_r _ [27, 28, 29, 4, 30, 31, 32, 33, 34, 35, 36, 37, 38, 39, 40, 41, 42, 43, 10, 11, 12, 13, 14, 15, 16, 17, 18, 19, 20, 21, 22, 23, 44, 45, 46, 47, 58, 59, 60, 61, 62, 63, 64, 65, 66, 67, 68, 69] (by decide +kernel) (by decide +kernel)) (goodIn_sub (fun _ h => List.mem_cons_of_mem _ (List.mem_append_left _ (List.mem_append_right _ h))) (by decide +kernel))
set_option maxRecDepth 20000 in
theorem gL_isScaleSo_X0_nearest : GoodIn wsL_isScaleSo (wsV RL 92 RX0 yX0_nearest wsX0_nearest) := goodIn_app (goodIn_of _ (by decide +kernel)) ggL_isScaleSo_X0_nearest
set_option maxRecDepth 20000 in
theorem ggL_isScaleSo_X0_rung : GoodIn wsL_isScaleSo wsX0_rung := goodIn_ca (goodIn_r _ [51, 52, 53, 6, 7, 8, 4, 9, 10, 11, 12, 13, 14, 15, 16, 17, 18, 19, 20, 21, 22, 23, 58, 59, 60, 61, 62, 63, 64, 65, 66, 67, 68, 69] (by decide +kernel) (by decide +kernel)) (goodIn_sub (fun _ h => List.mem_cons_of_mem _ (List.mem_append_right _ h)) (by decide +kernel))
set_option maxRecDepth 20000 in
theorem gL_isScaleSo_X0_rung : GoodIn wsL_isScaleSo (wsV RL 62 RX0 yX0_rung wsX0_rung) := goodIn_app (goodIn_of _ (by decide +kernel)) ggL_isScaleSo_X0_rung
set_option maxRecDepth 20000 in
theorem ggL_isScaleSo_X0_stepOf : GoodIn wsL_isScaleSo wsX0_stepOf := goodIn_ca (goodIn_r _ [57, 28, 29, 4, 30, 31, 32, 33, 34, 35, 10, 11, 12, 13, 14, 15, 16, 17, 18, 19, 20, 21, 22, 23, 58, 59, 60, 61, 62, 63, 64, 65, 66, 67, 68, 69] (by decide +kernel) (by decide +kernel)) (goodIn_sub (fun _ h => List.mem_cons_of_mem _ (List.mem_append_left _ (List.mem_append_right _ h))) (by decide +kernel))
set_option maxRecDepth 20000 in
theorem gL_isScaleSo_X0_stepOf : GoodIn wsL_isScaleSo (wsV RL 89 RX0 yX0_stepOf wsX0_stepOf) := goodIn_app (goodIn_of _ (by decide +kernel)) ggL_isScaleSo_X0_stepOf
theorem dL_isScaleSo_0 : decode cL_isScaleSo 0 = .ok (.aload_n 0, 1) := by decide +kernel
theorem dL_isScaleSo_1 : decode cL_isScaleSo 1 = .ok (.invokevirtual 58, 3) := by decide +kernel
theorem dL_isScaleSo_4 : decode cL_isScaleSo 4 = .ok (.istore_n 2, 1) := by decide +kernel
theorem dL_isScaleSo_5 : decode cL_isScaleSo 5 = .ok (.aload_n 0, 1) := by decide +kernel
theorem dL_isScaleSo_6 : decode cL_isScaleSo 6 = .ok (.iload_n 1, 1) := by decide +kernel
theorem dL_isScaleSo_7 : decode cL_isScaleSo 7 = .ok (.invokevirtual 92, 3) := by decide +kernel
theorem dL_isScaleSo_10 : decode cL_isScaleSo 10 = .ok (.istore_n 3, 1) := by decide +kernel
theorem dL_isScaleSo_11 : decode cL_isScaleSo 11 = .ok (.iload_n 3, 1) := by decide +kernel
theorem dL_isScaleSo_12 : decode cL_isScaleSo 12 = .ok (.iload_n 1, 1) := by decide +kernel
theorem dL_isScaleSo_13 : decode cL_isScaleSo 13 = .ok (.if_icmp .le 9, 3) := by decide +kernel
theorem dL_isScaleSo_16 : decode cL_isScaleSo 16 = .ok (.iload_n 3, 1) := by decide +kernel
theorem dL_isScaleSo_17 : decode cL_isScaleSo 17 = .ok (.iload_n 1, 1) := by decide +kernel
theorem dL_isScaleSo_18 : decode cL_isScaleSo 18 = .ok (.isub, 1) := by decide +kernel
theorem dL_isScaleSo_19 : decode cL_isScaleSo 19 = .ok (.goto 6, 3) := by decide +kernel
theorem dL_isScaleSo_22 : decode cL_isScaleSo 22 = .ok (.iload_n 1, 1) := by decide +kernel
theorem dL_isScaleSo_23 : decode cL_isScaleSo 23 = .ok (.iload_n 3, 1) := by decide +kernel
theorem dL_isScaleSo_24 : decode cL_isScaleSo 24 = .ok (.isub, 1) := by decide +kernel
theorem dL_isScaleSo_25 : decode cL_isScaleSo 25 = .ok (.istore 4, 2) := by decide +kernel
theorem dL_isScaleSo_27 : decode cL_isScaleSo 27 = .ok (.iconst (-1), 1) := by decide +kernel
theorem dL_isScaleSo_28 : decode cL_isScaleSo 28 = .ok (.istore 5, 2) := by decide +kernel
theorem dL_isScaleSo_30 : decode cL_isScaleSo 30 = .ok (.iconst 0, 1) := by decide +kernel
theorem dL_isScaleSo_31 : decode cL_isScaleSo 31 = .ok (.istore 6, 2) := by decide +kernel
theorem dL_isScaleSo_33 : decode cL_isScaleSo 33 = .ok (.iconst 0, 1) := by decide +kernel
theorem dL_isScaleSo_34 : decode cL_isScaleSo 34 = .ok (.istore 7, 2) := by decide +kernel
theorem dL_isScaleSo_36 : decode cL_isScaleSo 36 = .ok (.iload 7, 2) := by decide +kernel
theorem dL_isScaleSo_38 : decode cL_isScaleSo 38 = .ok (.iload_n 2, 1) := by decide +kernel
theorem dL_isScaleSo_39 : decode cL_isScaleSo 39 = .ok (.if_icmp .ge 175, 3) := by decide +kernel
theorem dL_isScaleSo_42 : decode cL_isScaleSo 42 = .ok (.aload_n 0, 1) := by decide +kernel
theorem dL_isScaleSo_43 : decode cL_isScaleSo 43 = .ok (.iload 7, 2) := by decide +kernel
theorem dL_isScaleSo_45 : decode cL_isScaleSo 45 = .ok (.invokevirtual 62, 3) := by decide +kernel
theorem dL_isScaleSo_48 : decode cL_isScaleSo 48 = .ok (.istore 8, 2) := by decide +kernel
theorem dL_isScaleSo_50 : decode cL_isScaleSo 50 = .ok (.iload 8, 2) := by decide +kernel
theorem dL_isScaleSo_52 : decode cL_isScaleSo 52 = .ok (.iload_n 1, 1) := by decide +kernel
theorem dL_isScaleSo_53 : decode cL_isScaleSo 53 = .ok (.if_icmp .le 10, 3) := by decide +kernel
theorem dL_isScaleSo_56 : decode cL_isScaleSo 56 = .ok (.iload 8, 2) := by decide +kernel
theorem dL_isScaleSo_58 : decode cL_isScaleSo 58 = .ok (.iload_n 1, 1) := by decide +kernel
theorem dL_isScaleSo_59 : decode cL_isScaleSo 59 = .ok (.isub, 1) := by decide +kernel
theorem dL_isScaleSo_60 : decode cL_isScaleSo 60 = .ok (.goto 7, 3) := by decide +kernel
theorem dL_isScaleSo_63 : decode cL_isScaleSo 63 = .ok (.iload_n 1, 1) := by decide +kernel
theorem dL_isScaleSo_64 : decode cL_isScaleSo 64 = .ok (.iload 8, 2) := by decide +kernel
theorem dL_isScaleSo_66 : decode cL_isScaleSo 66 = .ok (.isub, 1) := by decide +kernel
theorem dL_isScaleSo_67 : decode cL_isScaleSo 67 = .ok (.istore 9, 2) := by decide +kernel
theorem dL_isScaleSo_69 : decode cL_isScaleSo 69 = .ok (.iload 8, 2) := by decide +kernel
theorem dL_isScaleSo_71 : decode cL_isScaleSo 71 = .ok (.iload 5, 2) := by decide +kernel
theorem dL_isScaleSo_73 : decode cL_isScaleSo 73 = .ok (.if_icmp .le 111, 3) := by decide +kernel
theorem dL_isScaleSo_76 : decode cL_isScaleSo 76 = .ok (.iload 8, 2) := by decide +kernel
theorem dL_isScaleSo_78 : decode cL_isScaleSo 78 = .ok (.sipush 12000, 3) := by decide +kernel
theorem dL_isScaleSo_81 : decode cL_isScaleSo 81 = .ok (.if_icmp .gt 103, 3) := by decide +kernel
theorem dL_isScaleSo_84 : decode cL_isScaleSo 84 = .ok (.iload 8, 2) := by decide +kernel
theorem dL_isScaleSo_86 : decode cL_isScaleSo 86 = .ok (.bipush 100, 2) := by decide +kernel
theorem dL_isScaleSo_88 : decode cL_isScaleSo 88 = .ok (.irem, 1) := by decide +kernel
theorem dL_isScaleSo_89 : decode cL_isScaleSo 89 = .ok (.ifCond .ne 95, 3) := by decide +kernel
theorem dL_isScaleSo_92 : decode cL_isScaleSo 92 = .ok (.aload_n 0, 1) := by decide +kernel
theorem dL_isScaleSo_93 : decode cL_isScaleSo 93 = .ok (.iload 8, 2) := by decide +kernel
theorem dL_isScaleSo_95 : decode cL_isScaleSo 95 = .ok (.invokevirtual 89, 3) := by decide +kernel
theorem dL_isScaleSo_98 : decode cL_isScaleSo 98 = .ok (.ifCond .lt 86, 3) := by decide +kernel
theorem dL_isScaleSo_101 : decode cL_isScaleSo 101 = .ok (.aload_n 0, 1) := by decide +kernel
theorem dL_isScaleSo_102 : decode cL_isScaleSo 102 = .ok (.iload 8, 2) := by decide +kernel
theorem dL_isScaleSo_104 : decode cL_isScaleSo 104 = .ok (.invokevirtual 92, 3) := by decide +kernel
theorem dL_isScaleSo_107 : decode cL_isScaleSo 107 = .ok (.iload 8, 2) := by decide +kernel
theorem dL_isScaleSo_109 : decode cL_isScaleSo 109 = .ok (.if_icmp .ne 75, 3) := by decide +kernel
theorem dL_isScaleSo_112 : decode cL_isScaleSo 112 = .ok (.iload 9, 2) := by decide +kernel
theorem dL_isScaleSo_114 : decode cL_isScaleSo 114 = .ok (.iload 4, 2) := by decide +kernel
theorem dL_isScaleSo_116 : decode cL_isScaleSo 116 = .ok (.if_icmp .lt 68, 3) := by decide +kernel
theorem dL_isScaleSo_119 : decode cL_isScaleSo 119 = .ok (.iload 9, 2) := by decide +kernel
theorem dL_isScaleSo_121 : decode cL_isScaleSo 121 = .ok (.iload 4, 2) := by decide +kernel
theorem dL_isScaleSo_123 : decode cL_isScaleSo 123 = .ok (.if_icmp .ne 9, 3) := by decide +kernel
theorem dL_isScaleSo_126 : decode cL_isScaleSo 126 = .ok (.iload 8, 2) := by decide +kernel
theorem dL_isScaleSo_128 : decode cL_isScaleSo 128 = .ok (.iload_n 3, 1) := by decide +kernel
theorem dL_isScaleSo_129 : decode cL_isScaleSo 129 = .ok (.if_icmp .lt 55, 3) := by decide +kernel
theorem dL_isScaleSo_132 : decode cL_isScaleSo 132 = .ok (.iload 7, 2) := by decide +kernel
theorem dL_isScaleSo_134 : decode cL_isScaleSo 134 = .ok (.ifCond .le 14, 3) := by decide +kernel
theorem dL_isScaleSo_137 : decode cL_isScaleSo 137 = .ok (.iload 8, 2) := by decide +kernel
theorem dL_isScaleSo_139 : decode cL_isScaleSo 139 = .ok (.iload 5, 2) := by decide +kernel
theorem dL_isScaleSo_141 : decode cL_isScaleSo 141 = .ok (.isub, 1) := by decide +kernel
theorem dL_isScaleSo_142 : decode cL_isScaleSo 142 = .ok (.sipush 200, 3) := by decide +kernel
theorem dL_isScaleSo_145 : decode cL_isScaleSo 145 = .ok (.if_icmp .gt 39, 3) := by decide +kernel
theorem dL_isScaleSo_148 : decode cL_isScaleSo 148 = .ok (.iload 7, 2) := by decide +kernel
theorem dL_isScaleSo_150 : decode cL_isScaleSo 150 = .ok (.ifCond .le 36, 3) := by decide +kernel
theorem dL_isScaleSo_153 : decode cL_isScaleSo 153 = .ok (.aload_n 0, 1) := by decide +kernel
theorem dL_isScaleSo_154 : decode cL_isScaleSo 154 = .ok (.iload 8, 2) := by decide +kernel
theorem dL_isScaleSo_156 : decode cL_isScaleSo 156 = .ok (.invokevirtual 89, 3) := by decide +kernel
theorem dL_isScaleSo_159 : decode cL_isScaleSo 159 = .ok (.aload_n 0, 1) := by decide +kernel
theorem dL_isScaleSo_160 : decode cL_isScaleSo 160 = .ok (.iload 5, 2) := by decide +kernel
theorem dL_isScaleSo_162 : decode cL_isScaleSo 162 = .ok (.invokevirtual 89, 3) := by decide +kernel
theorem dL_isScaleSo_165 : decode cL_isScaleSo 165 = .ok (.iconst 1, 1) := by decide +kernel
theorem dL_isScaleSo_166 : decode cL_isScaleSo 166 = .ok (.iadd, 1) := by decide +kernel
theorem dL_isScaleSo_167 : decode cL_isScaleSo 167 = .ok (.iload_n 2, 1) := by decide +kernel
theorem dL_isScaleSo_168 : decode cL_isScaleSo 168 = .ok (.bipush 100, 2) := by decide +kernel
theorem dL_isScaleSo_170 : decode cL_isScaleSo 170 = .ok (.if_icmp .le 8, 3) := by decide +kernel
theorem dL_isScaleSo_173 : decode cL_isScaleSo 173 = .ok (.bipush 12, 2) := by decide +kernel
theorem dL_isScaleSo_175 : decode cL_isScaleSo 175 = .ok (.goto 5, 3) := by decide +kernel
theorem dL_isScaleSo_178 : decode cL_isScaleSo 178 = .ok (.bipush 7, 2) := by decide +kernel
theorem dL_isScaleSo_180 : decode cL_isScaleSo 180 = .ok (.irem, 1) := by decide +kernel
theorem dL_isScaleSo_181 : decode cL_isScaleSo 181 = .ok (.if_icmp .eq 5, 3) := by decide +kernel
theorem dL_isScaleSo_184 : decode cL_isScaleSo 184 = .ok (.iconst 0, 1) := by decide +kernel
theorem dL_isScaleSo_185 : decode cL_isScaleSo 185 = .ok (.ireturn, 1) := by decide +kernel
theorem dL_isScaleSo_186 : decode cL_isScaleSo 186 = .ok (.iload 6, 2) := by decide +kernel
theorem dL_isScaleSo_188 : decode cL_isScaleSo 188 = .ok (.ifCond .ne 9, 3) := by decide +kernel
theorem dL_isScaleSo_191 : decode cL_isScaleSo 191 = .ok (.iload 8, 2) := by decide +kernel
theorem dL_isScaleSo_193 : decode cL_isScaleSo 193 = .ok (.iload_n 3, 1) := by decide +kernel
theorem dL_isScaleSo_194 : decode cL_isScaleSo 194 = .ok (.if_icmp .ne 7, 3) := by decide +kernel
theorem dL_isScaleSo_197 : decode cL_isScaleSo 197 = .ok (.iconst 1, 1) := by decide +kernel
theorem dL_isScaleSo_198 : decode cL_isScaleSo 198 = .ok (.goto 4, 3) := by decide +kernel
theorem dL_isScaleSo_201 : decode cL_isScaleSo 201 = .ok (.iconst 0, 1) := by decide +kernel
theorem dL_isScaleSo_202 : decode cL_isScaleSo 202 = .ok (.istore 6, 2) := by decide +kernel
theorem dL_isScaleSo_204 : decode cL_isScaleSo 204 = .ok (.iload 8, 2) := by decide +kernel
theorem dL_isScaleSo_206 : decode cL_isScaleSo 206 = .ok (.istore 5, 2) := by decide +kernel
theorem dL_isScaleSo_208 : decode cL_isScaleSo 208 = .ok (.iinc 7 1, 3) := by decide +kernel
theorem dL_isScaleSo_211 : decode cL_isScaleSo 211 = .ok (.goto (-175), 3) := by decide +kernel
theorem dL_isScaleSo_214 : decode cL_isScaleSo 214 = .ok (.iload 6, 2) := by decide +kernel
theorem dL_isScaleSo_216 : decode cL_isScaleSo 216 = .ok (.ifCond .eq 44, 3) := by decide +kernel
theorem dL_isScaleSo_219 : decode cL_isScaleSo 219 = .ok (.iload_n 2, 1) := by decide +kernel
theorem dL_isScaleSo_220 : decode cL_isScaleSo 220 = .ok (.bipush 121, 2) := by decide +kernel
theorem dL_isScaleSo_222 : decode cL_isScaleSo 222 = .ok (.if_icmp .eq 15, 3) := by decide +kernel
theorem dL_isScaleSo_225 : decode cL_isScaleSo 225 = .ok (.iload_n 2, 1) := by decide +kernel
theorem dL_isScaleSo_226 : decode cL_isScaleSo 226 = .ok (.bipush 70, 2) := by decide +kernel
theorem dL_isScaleSo_228 : decode cL_isScaleSo 228 = .ok (.if_icmp .eq 9, 3) := by decide +kernel
theorem dL_isScaleSo_231 : decode cL_isScaleSo 231 = .ok (.iload_n 2, 1) := by decide +kernel
theorem dL_isScaleSo_232 : decode cL_isScaleSo 232 = .ok (.bipush 71, 2) := by decide +kernel
theorem dL_isScaleSo_234 : decode cL_isScaleSo 234 = .ok (.if_icmp .ne 26, 3) := by decide +kernel
theorem dL_isScaleSo_237 : decode cL_isScaleSo 237 = .ok (.iload 5, 2) := by decide +kernel
theorem dL_isScaleSo_239 : decode cL_isScaleSo 239 = .ok (.sipush 11800, 3) := by decide +kernel
theorem dL_isScaleSo_242 : decode cL_isScaleSo 242 = .ok (.if_icmp .le 18, 3) := by decide +kernel
theorem dL_isScaleSo_245 : decode cL_isScaleSo 245 = .ok (.aload_n 0, 1) := by decide +kernel
theorem dL_isScaleSo_246 : decode cL_isScaleSo 246 = .ok (.iconst 0, 1) := by decide +kernel
theorem dL_isScaleSo_247 : decode cL_isScaleSo 247 = .ok (.invokevirtual 62, 3) := by decide +kernel
theorem dL_isScaleSo_250 : decode cL_isScaleSo 250 = .ok (.sipush 200, 3) := by decide +kernel
theorem dL_isScaleSo_253 : decode cL_isScaleSo 253 = .ok (.if_icmp .ge 7, 3) := by decide +kernel
theorem dL_isScaleSo_256 : decode cL_isScaleSo 256 = .ok (.iconst 1, 1) := by decide +kernel
theorem dL_isScaleSo_257 : decode cL_isScaleSo 257 = .ok (.goto 4, 3) := by decide +kernel
theorem dL_isScaleSo_260 : decode cL_isScaleSo 260 = .ok (.iconst 0, 1) := by decide +kernel
theorem dL_isScaleSo_261 : decode cL_isScaleSo 261 = .ok (.ireturn, 1) := by decide +kernel
set_option maxRecDepth 20000 in
theorem ggL_areKeysSo_X0_bestKey : GoodIn wsL_areKeysSo wsX0_bestKey := goodIn_ca (goodIn_r _ [5, 6, 7, 4, 8, 9, 10, 11, 12, 13, 14, 15, 16, 17, 18, 19, 20, 21, 22, 23, 38, 39, 40, 41, 42, 43, 44, 45, 46, 47, 48, 49] (by decide +kernel) (by decide +kernel)) (goodIn_sub (fun _ h => List.mem_cons_of_mem _ (List.mem_append_left _ (List.mem_append_right _ h))) (by decide +kernel))
set_option maxRecDepth 20000 in
theorem gL_areKeysSo_X0_bestKey : GoodIn wsL_areKeysSo (wsV RL 95 RX0 yX0_bestKey wsX0_bestKey) := goodIn_app (goodIn_of _ (by decide +kernel)) ggL_areKeysSo_X0_bestKey
set_option maxRecDepth 20000 in
theorem ggL_areKeysSo_X0_within : GoodIn wsL_areKeysSo wsX0_within := goodIn_ca (goodIn_r _ [27, 6, 7, 4, 8, 9, 10, 11, 12, 13, 14, 15, 16, 17, 18, 19, 20, 21, 22, 23, 38, 39, 40, 41, 42, 43, 44, 45, 46, 47, 48, 49] (by decide +kernel) (by decide +kernel)) (goodIn_sub (fun _ h => List.mem_cons_of_mem _ (List.mem_append_left _ (List.mem_append_right _ h))) (by decide +kernel))
set_option maxRecDepth 20000 in
theorem gL_areKeysSo_X0_within : GoodIn wsL_areKeysSo (wsV RL 98 RX0 yX0_within wsX0_within) := goodIn_app (goodIn_of _ (by decide +kernel)) ggL_areKeysSo_X0_within
set_option maxRecDepth 20000 in
theorem ggL_areKeysSo_X0_framesOf : GoodIn wsL_areKeysSo wsX0_framesOf := goodIn_ca (goodIn_r _ [31, 32, 33, 34, 4, 35, 36, 37, 38, 39, 40, 41, 42, 43, 44, 45, 46, 47, 48, 49] (by decide +kernel) (by decide +kernel)) (goodIn_sub (fun _ h => List.mem_cons_of_mem _ (List.mem_append_right _ h)) (by decide +kernel))
set_option maxRecDepth 20000 in
theorem gL_areKeysSo_X0_framesOf : GoodIn wsL_areKeysSo (wsV RL 71 RX0 yX0_framesOf wsX0_framesOf) := goodIn_app (goodIn_of _ (by decide +kernel)) ggL_areKeysSo_X0_framesOf
theorem dL_areKeysSo_0 : decode cL_areKeysSo 0 = .ok (.aload_n 0, 1) := by decide +kernel
theorem dL_areKeysSo_1 : decode cL_areKeysSo 1 = .ok (.iload_n 1, 1) := by decide +kernel
theorem dL_areKeysSo_2 : decode cL_areKeysSo 2 = .ok (.invokevirtual 95, 3) := by decide +kernel
theorem dL_areKeysSo_5 : decode cL_areKeysSo 5 = .ok (.istore_n 2, 1) := by decide +kernel
theorem dL_areKeysSo_6 : decode cL_areKeysSo 6 = .ok (.aload_n 0, 1) := by decide +kernel
theorem dL_areKeysSo_7 : decode cL_areKeysSo 7 = .ok (.iload_n 2, 1) := by decide +kernel
theorem dL_areKeysSo_8 : decode cL_areKeysSo 8 = .ok (.iload_n 1, 1) := by decide +kernel
theorem dL_areKeysSo_9 : decode cL_areKeysSo 9 = .ok (.invokevirtual 98, 3) := by decide +kernel
theorem dL_areKeysSo_12 : decode cL_areKeysSo 12 = .ok (.istore_n 3, 1) := by decide +kernel
theorem dL_areKeysSo_13 : decode cL_areKeysSo 13 = .ok (.iconst 0, 1) := by decide +kernel
theorem dL_areKeysSo_14 : decode cL_areKeysSo 14 = .ok (.istore 4, 2) := by decide +kernel
theorem dL_areKeysSo_16 : decode cL_areKeysSo 16 = .ok (.aload_n 0, 1) := by decide +kernel
theorem dL_areKeysSo_17 : decode cL_areKeysSo 17 = .ok (.iconst 0, 1) := by decide +kernel
theorem dL_areKeysSo_18 : decode cL_areKeysSo 18 = .ok (.invokevirtual 71, 3) := by decide +kernel
theorem dL_areKeysSo_21 : decode cL_areKeysSo 21 = .ok (.aload_n 0, 1) := by decide +kernel
theorem dL_areKeysSo_22 : decode cL_areKeysSo 22 = .ok (.iconst 1, 1) := by decide +kernel
theorem dL_areKeysSo_23 : decode cL_areKeysSo 23 = .ok (.invokevirtual 71, 3) := by decide +kernel
theorem dL_areKeysSo_26 : decode cL_areKeysSo 26 = .ok (.iadd, 1) := by decide +kernel
theorem dL_areKeysSo_27 : decode cL_areKeysSo 27 = .ok (.aload_n 0, 1) := by decide +kernel
theorem dL_areKeysSo_28 : decode cL_areKeysSo 28 = .ok (.iconst 2, 1) := by decide +kernel
theorem dL_areKeysSo_29 : decode cL_areKeysSo 29 = .ok (.invokevirtual 71, 3) := by decide +kernel
theorem dL_areKeysSo_32 : decode cL_areKeysSo 32 = .ok (.iadd, 1) := by decide +kernel
theorem dL_areKeysSo_33 : decode cL_areKeysSo 33 = .ok (.aload_n 0, 1) := by decide +kernel
theorem dL_areKeysSo_34 : decode cL_areKeysSo 34 = .ok (.iconst 3, 1) := by decide +kernel
theorem dL_areKeysSo_35 : decode cL_areKeysSo 35 = .ok (.invokevirtual 71, 3) := by decide +kernel
theorem dL_areKeysSo_38 : decode cL_areKeysSo 38 = .ok (.iadd, 1) := by decide +kernel
theorem dL_areKeysSo_39 : decode cL_areKeysSo 39 = .ok (.istore 5, 2) := by decide +kernel
theorem dL_areKeysSo_41 : decode cL_areKeysSo 41 = .ok (.iconst 0, 1) := by decide +kernel
theorem dL_areKeysSo_42 : decode cL_areKeysSo 42 = .ok (.istore 6, 2) := by decide +kernel
theorem dL_areKeysSo_44 : decode cL_areKeysSo 44 = .ok (.iload 6, 2) := by decide +kernel
theorem dL_areKeysSo_46 : decode cL_areKeysSo 46 = .ok (.bipush 12, 2) := by decide +kernel
theorem dL_areKeysSo_48 : decode cL_areKeysSo 48 = .ok (.if_icmp .ge 65, 3) := by decide +kernel
theorem dL_areKeysSo_51 : decode cL_areKeysSo 51 = .ok (.aload_n 0, 1) := by decide +kernel
theorem dL_areKeysSo_52 : decode cL_areKeysSo 52 = .ok (.iload 6, 2) := by decide +kernel
theorem dL_areKeysSo_54 : decode cL_areKeysSo 54 = .ok (.iload_n 1, 1) := by decide +kernel
theorem dL_areKeysSo_55 : decode cL_areKeysSo 55 = .ok (.invokevirtual 98, 3) := by decide +kernel
theorem dL_areKeysSo_58 : decode cL_areKeysSo 58 = .ok (.istore 7, 2) := by decide +kernel
theorem dL_areKeysSo_60 : decode cL_areKeysSo 60 = .ok (.iload 4, 2) := by decide +kernel
theorem dL_areKeysSo_62 : decode cL_areKeysSo 62 = .ok (.iload 7, 2) := by decide +kernel
theorem dL_areKeysSo_64 : decode cL_areKeysSo 64 = .ok (.iadd, 1) := by decide +kernel
theorem dL_areKeysSo_65 : decode cL_areKeysSo 65 = .ok (.istore 4, 2) := by decide +kernel
theorem dL_areKeysSo_67 : decode cL_areKeysSo 67 = .ok (.iload 7, 2) := by decide +kernel
theorem dL_areKeysSo_69 : decode cL_areKeysSo 69 = .ok (.iload_n 3, 1) := by decide +kernel
theorem dL_areKeysSo_70 : decode cL_areKeysSo 70 = .ok (.if_icmp .gt 35, 3) := by decide +kernel
theorem dL_areKeysSo_73 : decode cL_areKeysSo 73 = .ok (.iload 7, 2) := by decide +kernel
theorem dL_areKeysSo_75 : decode cL_areKeysSo 75 = .ok (.iload_n 3, 1) := by decide +kernel
theorem dL_areKeysSo_76 : decode cL_areKeysSo 76 = .ok (.if_icmp .ne 9, 3) := by decide +kernel
theorem dL_areKeysSo_79 : decode cL_areKeysSo 79 = .ok (.iload 6, 2) := by decide +kernel
theorem dL_areKeysSo_81 : decode cL_areKeysSo 81 = .ok (.iload_n 2, 1) := by decide +kernel
theorem dL_areKeysSo_82 : decode cL_areKeysSo 82 = .ok (.if_icmp .lt 23, 3) := by decide +kernel
theorem dL_areKeysSo_85 : decode cL_areKeysSo 85 = .ok (.iload 7, 2) := by decide +kernel
theorem dL_areKeysSo_87 : decode cL_areKeysSo 87 = .ok (.iload 5, 2) := by decide +kernel
theorem dL_areKeysSo_89 : decode cL_areKeysSo 89 = .ok (.if_icmp .gt 16, 3) := by decide +kernel
theorem dL_areKeysSo_92 : decode cL_areKeysSo 92 = .ok (.iload_n 1, 1) := by decide +kernel
theorem dL_areKeysSo_93 : decode cL_areKeysSo 93 = .ok (.bipush 7, 2) := by decide +kernel
theorem dL_areKeysSo_95 : decode cL_areKeysSo 95 = .ok (.if_icmp .ne 12, 3) := by decide +kernel
theorem dL_areKeysSo_98 : decode cL_areKeysSo 98 = .ok (.iload 7, 2) := by decide +kernel
theorem dL_areKeysSo_100 : decode cL_areKeysSo 100 = .ok (.iload 5, 2) := by decide +kernel
theorem dL_areKeysSo_102 : decode cL_areKeysSo 102 = .ok (.if_icmp .eq 5, 3) := by decide +kernel
theorem dL_areKeysSo_105 : decode cL_areKeysSo 105 = .ok (.iconst 0, 1) := by decide +kernel
theorem dL_areKeysSo_106 : decode cL_areKeysSo 106 = .ok (.ireturn, 1) := by decide +kernel
theorem dL_areKeysSo_107 : decode cL_areKeysSo 107 = .ok (.iinc 6 1, 3) := by decide +kernel
theorem dL_areKeysSo_110 : decode cL_areKeysSo 110 = .ok (.goto (-66), 3) := by decide +kernel
theorem dL_areKeysSo_113 : decode cL_areKeysSo 113 = .ok (.iload 4, 2) := by decide +kernel
theorem dL_areKeysSo_115 : decode cL_areKeysSo 115 = .ok (.iload 5, 2) := by decide +kernel
theorem dL_areKeysSo_117 : decode cL_areKeysSo 117 = .ok (.iload_n 1, 1) := by decide +kernel
theorem dL_areKeysSo_118 : decode cL_areKeysSo 118 = .ok (.bipush 7, 2) := by decide +kernel
theorem dL_areKeysSo_120 : decode cL_areKeysSo 120 = .ok (.if_icmp .ne 8, 3) := by decide +kernel
theorem dL_areKeysSo_123 : decode cL_areKeysSo 123 = .ok (.bipush 12, 2) := by decide +kernel
theorem dL_areKeysSo_125 : decode cL_areKeysSo 125 = .ok (.goto 5, 3) := by decide +kernel
theorem dL_areKeysSo_128 : decode cL_areKeysSo 128 = .ok (.bipush 7, 2) := by decide +kernel
theorem dL_areKeysSo_130 : decode cL_areKeysSo 130 = .ok (.imul, 1) := by decide +kernel
theorem dL_areKeysSo_131 : decode cL_areKeysSo 131 = .ok (.if_icmp .ne 7, 3) := by decide +kernel
theorem dL_areKeysSo_134 : decode cL_areKeysSo 134 = .ok (.iconst 1, 1) := by decide +kernel
theorem dL_areKeysSo_135 : decode cL_areKeysSo 135 = .ok (.goto 4, 3) := by decide +kernel
theorem dL_areKeysSo_138 : decode cL_areKeysSo 138 = .ok (.iconst 0, 1) := by decide +kernel
theorem dL_areKeysSo_139 : decode cL_areKeysSo 139 = .ok (.ireturn, 1) := by decide +kernel
set_option maxRecDepth 20000 in
theorem ggL_isNudgedSo_X0_framesToRung : GoodIn wsL_isNudgedSo wsX0_framesToRung := goodIn_ca (goodIn_ca (goodIn_r _ [5, 6, 7, 8, 4, 9, 10, 11, 12, 13, 14, 15, 16, 17, 18, 19, 20, 21, 22, 23, 24, 25, 26, 27, 28, 29, 30, 31, 32, 33, 34, 35, 36, 37, 38, 39, 40, 41, 42, 43, 44, 45, 46, 47, 48, 49, 50, 51, 52, 53, 54, 55, 56, 57, 58, 59, 60, 61, 62, 63, 64, 65, 66, 67, 68, 69, 70, 71, 72, 73, 74, 75, 76, 77, 78, 107, 108, 109, 110, 111, 112, 113, 114, 115, 116, 117, 118] (by decide +kernel) (by decide +kernel)) (goodIn_sub (fun _ h => List.mem_cons_of_mem _ (List.mem_append_left _ (List.mem_append_right _ h))) (by decide +kernel))) (goodIn_sub (fun _ h => List.mem_cons_of_mem _ (List.mem_append_right _ h)) (by decide +kernel))
set_option maxRecDepth 20000 in
theorem gL_isNudgedSo_X0_framesToRung : GoodIn wsL_isNudgedSo (wsV RL 83 RX0 yX0_framesToRung wsX0_framesToRung) := goodIn_app (goodIn_of _ (by decide +kernel)) ggL_isNudgedSo_X0_framesToRung
set_option maxRecDepth 20000 in
theorem ggL_isNudgedSo_X0_sing : GoodIn wsL_isNudgedSo wsX0_sing := goodIn_ca (goodIn_ca (goodIn_r _ [82, 7, 8, 4, 9, 10, 11, 12, 13, 14, 15, 16, 17, 18, 19, 83, 84, 85, 86, 6, 59, 87, 88, 89, 90, 91, 20, 21, 22, 23, 24, 25, 26, 27, 28, 29, 30, 31, 32, 33, 34, 35, 36, 37, 38, 39, 40, 41, 42, 43, 44, 45, 46, 47, 48, 49, 50, 51, 52, 53, 54, 55, 56, 57, 58, 60, 61, 62, 63, 64, 65, 66, 67, 68, 69, 70, 71, 72, 73, 74, 75, 76, 77, 78, 92, 93, 94, 95, 96, 97, 98, 107, 108, 109, 110, 111, 112, 113, 114, 115, 116, 117, 118] (by decide +kernel) (by decide +kernel)) (goodIn_sub (fun _ h => List.mem_cons_of_mem _ (List.mem_append_left _ (List.mem_append_right _ h))) (by decide +kernel))) (goodIn_sub (fun _ h => List.mem_cons_of_mem _ (List.mem_append_right _ h)) (by decide +kernel))
set_option maxRecDepth 20000 in
theorem gL_isNudgedSo_X0_sing : GoodIn wsL_isNudgedSo (wsV RL 8 RX0 yX0_sing wsX0_sing) := goodIn_app (goodIn_of _ (by decide +kernel)) ggL_isNudgedSo_X0_sing
set_option maxRecDepth 20000 in
theorem ggL_isNudgedSo_X0_rungOf : GoodIn wsL_isNudgedSo wsX0_rungOf := goodIn_ca (goodIn_r _ [102, 6, 7, 8, 4, 9, 10, 11, 107, 108, 109, 110, 111, 112, 113, 114, 115, 116, 117, 118] (by decide +kernel) (by decide +kernel)) (goodIn_sub (fun _ h => List.mem_cons_of_mem _ (List.mem_append_left _ (List.mem_append_right _ h))) (by decide +kernel))
set_option maxRecDepth 20000 in
theorem gL_isNudgedSo_X0_rungOf : GoodIn wsL_isNudgedSo (wsV RL 53 RX0 yX0_rungOf wsX0_rungOf) := goodIn_app (goodIn_of _ (by decide +kernel)) ggL_isNudgedSo_X0_rungOf
set_option maxRecDepth 20000 in
theorem ggL_isNudgedSo_X0_nudgeOf : GoodIn wsL_isNudgedSo wsX0_nudgeOf := goodIn_ca (goodIn_r _ [106, 59, 7, 8, 4, 9, 10, 11, 107, 108, 109, 110, 111, 112, 113, 114, 115, 116, 117, 118] (by decide +kernel) (by decide +kernel)) (goodIn_sub (fun _ h => List.mem_cons_of_mem _ (List.mem_append_left _ (List.mem_append_right _ h))) (by decide +kernel))
set_option maxRecDepth 20000 in
theorem gL_isNudgedSo_X0_nudgeOf : GoodIn wsL_isNudgedSo (wsV RL 68 RX0 yX0_nudgeOf wsX0_nudgeOf) := goodIn_app (goodIn_of _ (by decide +kernel)) ggL_isNudgedSo_X0_nudgeOf
theorem dL_isNudgedSo_0 : decode cL_isNudgedSo 0 = .ok (.aload_n 0, 1) := by decide +kernel
theorem dL_isNudgedSo_1 : decode cL_isNudgedSo 1 = .ok (.iload_n 1, 1) := by decide +kernel
theorem dL_isNudgedSo_2 : decode cL_isNudgedSo 2 = .ok (.iload_n 2, 1) := by decide +kernel
theorem dL_isNudgedSo_3 : decode cL_isNudgedSo 3 = .ok (.invokevirtual 83, 3) := by decide +kernel
theorem dL_isNudgedSo_6 : decode cL_isNudgedSo 6 = .ok (.istore_n 3, 1) := by decide +kernel
theorem dL_isNudgedSo_7 : decode cL_isNudgedSo 7 = .ok (.aload_n 0, 1) := by decide +kernel
theorem dL_isNudgedSo_8 : decode cL_isNudgedSo 8 = .ok (.iload_n 1, 1) := by decide +kernel
theorem dL_isNudgedSo_9 : decode cL_isNudgedSo 9 = .ok (.iload_n 2, 1) := by decide +kernel
theorem dL_isNudgedSo_10 : decode cL_isNudgedSo 10 = .ok (.invokevirtual 8, 3) := by decide +kernel
theorem dL_isNudgedSo_13 : decode cL_isNudgedSo 13 = .ok (.istore 4, 2) := by decide +kernel
theorem dL_isNudgedSo_15 : decode cL_isNudgedSo 15 = .ok (.aload_n 0, 1) := by decide +kernel
theorem dL_isNudgedSo_16 : decode cL_isNudgedSo 16 = .ok (.iload_n 1, 1) := by decide +kernel
theorem dL_isNudgedSo_17 : decode cL_isNudgedSo 17 = .ok (.invokevirtual 53, 3) := by decide +kernel
theorem dL_isNudgedSo_20 : decode cL_isNudgedSo 20 = .ok (.istore 5, 2) := by decide +kernel
theorem dL_isNudgedSo_22 : decode cL_isNudgedSo 22 = .ok (.iload 4, 2) := by decide +kernel
theorem dL_isNudgedSo_24 : decode cL_isNudgedSo 24 = .ok (.iload 5, 2) := by decide +kernel
theorem dL_isNudgedSo_26 : decode cL_isNudgedSo 26 = .ok (.if_icmp .le 11, 3) := by decide +kernel
theorem dL_isNudgedSo_29 : decode cL_isNudgedSo 29 = .ok (.iload 4, 2) := by decide +kernel
theorem dL_isNudgedSo_31 : decode cL_isNudgedSo 31 = .ok (.iload 5, 2) := by decide +kernel
theorem dL_isNudgedSo_33 : decode cL_isNudgedSo 33 = .ok (.isub, 1) := by decide +kernel
theorem dL_isNudgedSo_34 : decode cL_isNudgedSo 34 = .ok (.goto 8, 3) := by decide +kernel
theorem dL_isNudgedSo_37 : decode cL_isNudgedSo 37 = .ok (.iload 5, 2) := by decide +kernel
theorem dL_isNudgedSo_39 : decode cL_isNudgedSo 39 = .ok (.iload 4, 2) := by decide +kernel
theorem dL_isNudgedSo_41 : decode cL_isNudgedSo 41 = .ok (.isub, 1) := by decide +kernel
theorem dL_isNudgedSo_42 : decode cL_isNudgedSo 42 = .ok (.istore 6, 2) := by decide +kernel
theorem dL_isNudgedSo_44 : decode cL_isNudgedSo 44 = .ok (.iload 4, 2) := by decide +kernel
theorem dL_isNudgedSo_46 : decode cL_isNudgedSo 46 = .ok (.iload_n 2, 1) := by decide +kernel
theorem dL_isNudgedSo_47 : decode cL_isNudgedSo 47 = .ok (.aload_n 0, 1) := by decide +kernel
theorem dL_isNudgedSo_48 : decode cL_isNudgedSo 48 = .ok (.iload_n 1, 1) := by decide +kernel
theorem dL_isNudgedSo_49 : decode cL_isNudgedSo 49 = .ok (.invokevirtual 68, 3) := by decide +kernel
theorem dL_isNudgedSo_52 : decode cL_isNudgedSo 52 = .ok (.iadd, 1) := by decide +kernel
theorem dL_isNudgedSo_53 : decode cL_isNudgedSo 53 = .ok (.if_icmp .ne 35, 3) := by decide +kernel
theorem dL_isNudgedSo_56 : decode cL_isNudgedSo 56 = .ok (.iload 5, 2) := by decide +kernel
theorem dL_isNudgedSo_58 : decode cL_isNudgedSo 58 = .ok (.ifCond .lt 30, 3) := by decide +kernel
theorem dL_isNudgedSo_61 : decode cL_isNudgedSo 61 = .ok (.iload_n 3, 1) := by decide +kernel
theorem dL_isNudgedSo_62 : decode cL_isNudgedSo 62 = .ok (.iconst 1, 1) := by decide +kernel
theorem dL_isNudgedSo_63 : decode cL_isNudgedSo 63 = .ok (.if_icmp .ne 7, 3) := by decide +kernel
theorem dL_isNudgedSo_66 : decode cL_isNudgedSo 66 = .ok (.iconst 1, 1) := by decide +kernel
theorem dL_isNudgedSo_67 : decode cL_isNudgedSo 67 = .ok (.goto 4, 3) := by decide +kernel
theorem dL_isNudgedSo_70 : decode cL_isNudgedSo 70 = .ok (.iconst 0, 1) := by decide +kernel
theorem dL_isNudgedSo_71 : decode cL_isNudgedSo 71 = .ok (.iload 6, 2) := by decide +kernel
theorem dL_isNudgedSo_73 : decode cL_isNudgedSo 73 = .ok (.ifCond .ne 7, 3) := by decide +kernel
theorem dL_isNudgedSo_76 : decode cL_isNudgedSo 76 = .ok (.iconst 1, 1) := by decide +kernel
theorem dL_isNudgedSo_77 : decode cL_isNudgedSo 77 = .ok (.goto 4, 3) := by decide +kernel
theorem dL_isNudgedSo_80 : decode cL_isNudgedSo 80 = .ok (.iconst 0, 1) := by decide +kernel
theorem dL_isNudgedSo_81 : decode cL_isNudgedSo 81 = .ok (.if_icmp .ne 7, 3) := by decide +kernel
theorem dL_isNudgedSo_84 : decode cL_isNudgedSo 84 = .ok (.iconst 1, 1) := by decide +kernel
theorem dL_isNudgedSo_85 : decode cL_isNudgedSo 85 = .ok (.goto 4, 3) := by decide +kernel
theorem dL_isNudgedSo_88 : decode cL_isNudgedSo 88 = .ok (.iconst 0, 1) := by decide +kernel
theorem dL_isNudgedSo_89 : decode cL_isNudgedSo 89 = .ok (.istore 7, 2) := by decide +kernel
theorem dL_isNudgedSo_91 : decode cL_isNudgedSo 91 = .ok (.iconst 2, 1) := by decide +kernel
theorem dL_isNudgedSo_92 : decode cL_isNudgedSo 92 = .ok (.istore 8, 2) := by decide +kernel
theorem dL_isNudgedSo_94 : decode cL_isNudgedSo 94 = .ok (.iload 8, 2) := by decide +kernel
theorem dL_isNudgedSo_96 : decode cL_isNudgedSo 96 = .ok (.bipush 40, 2) := by decide +kernel
theorem dL_isNudgedSo_98 : decode cL_isNudgedSo 98 = .ok (.if_icmp .ge 121, 3) := by decide +kernel
theorem dL_isNudgedSo_101 : decode cL_isNudgedSo 101 = .ok (.iload 7, 2) := by decide +kernel
theorem dL_isNudgedSo_103 : decode cL_isNudgedSo 103 = .ok (.ifCond .eq 116, 3) := by decide +kernel
theorem dL_isNudgedSo_106 : decode cL_isNudgedSo 106 = .ok (.aload_n 0, 1) := by decide +kernel
theorem dL_isNudgedSo_107 : decode cL_isNudgedSo 107 = .ok (.iload_n 1, 1) := by decide +kernel
theorem dL_isNudgedSo_108 : decode cL_isNudgedSo 108 = .ok (.iload_n 2, 1) := by decide +kernel
theorem dL_isNudgedSo_109 : decode cL_isNudgedSo 109 = .ok (.invokevirtual 8, 3) := by decide +kernel
theorem dL_isNudgedSo_112 : decode cL_isNudgedSo 112 = .ok (.istore 9, 2) := by decide +kernel
theorem dL_isNudgedSo_114 : decode cL_isNudgedSo 114 = .ok (.iload 9, 2) := by decide +kernel
theorem dL_isNudgedSo_116 : decode cL_isNudgedSo 116 = .ok (.iload 5, 2) := by decide +kernel
theorem dL_isNudgedSo_118 : decode cL_isNudgedSo 118 = .ok (.if_icmp .le 11, 3) := by decide +kernel
theorem dL_isNudgedSo_121 : decode cL_isNudgedSo 121 = .ok (.iload 9, 2) := by decide +kernel
theorem dL_isNudgedSo_123 : decode cL_isNudgedSo 123 = .ok (.iload 5, 2) := by decide +kernel
theorem dL_isNudgedSo_125 : decode cL_isNudgedSo 125 = .ok (.isub, 1) := by decide +kernel
theorem dL_isNudgedSo_126 : decode cL_isNudgedSo 126 = .ok (.goto 8, 3) := by decide +kernel
theorem dL_isNudgedSo_129 : decode cL_isNudgedSo 129 = .ok (.iload 5, 2) := by decide +kernel
theorem dL_isNudgedSo_131 : decode cL_isNudgedSo 131 = .ok (.iload 9, 2) := by decide +kernel
theorem dL_isNudgedSo_133 : decode cL_isNudgedSo 133 = .ok (.isub, 1) := by decide +kernel
theorem dL_isNudgedSo_134 : decode cL_isNudgedSo 134 = .ok (.istore 10, 2) := by decide +kernel
theorem dL_isNudgedSo_136 : decode cL_isNudgedSo 136 = .ok (.aload_n 0, 1) := by decide +kernel
theorem dL_isNudgedSo_137 : decode cL_isNudgedSo 137 = .ok (.iload_n 1, 1) := by decide +kernel
theorem dL_isNudgedSo_138 : decode cL_isNudgedSo 138 = .ok (.invokevirtual 53, 3) := by decide +kernel
theorem dL_isNudgedSo_141 : decode cL_isNudgedSo 141 = .ok (.iload 5, 2) := by decide +kernel
theorem dL_isNudgedSo_143 : decode cL_isNudgedSo 143 = .ok (.if_icmp .ne 63, 3) := by decide +kernel
theorem dL_isNudgedSo_146 : decode cL_isNudgedSo 146 = .ok (.iload 9, 2) := by decide +kernel
theorem dL_isNudgedSo_148 : decode cL_isNudgedSo 148 = .ok (.iload_n 2, 1) := by decide +kernel
theorem dL_isNudgedSo_149 : decode cL_isNudgedSo 149 = .ok (.aload_n 0, 1) := by decide +kernel
theorem dL_isNudgedSo_150 : decode cL_isNudgedSo 150 = .ok (.iload_n 1, 1) := by decide +kernel
theorem dL_isNudgedSo_151 : decode cL_isNudgedSo 151 = .ok (.invokevirtual 68, 3) := by decide +kernel
theorem dL_isNudgedSo_154 : decode cL_isNudgedSo 154 = .ok (.iadd, 1) := by decide +kernel
theorem dL_isNudgedSo_155 : decode cL_isNudgedSo 155 = .ok (.if_icmp .ne 51, 3) := by decide +kernel
theorem dL_isNudgedSo_158 : decode cL_isNudgedSo 158 = .ok (.iload 10, 2) := by decide +kernel
theorem dL_isNudgedSo_160 : decode cL_isNudgedSo 160 = .ok (.iload 6, 2) := by decide +kernel
theorem dL_isNudgedSo_162 : decode cL_isNudgedSo 162 = .ok (.if_icmp .gt 44, 3) := by decide +kernel
theorem dL_isNudgedSo_165 : decode cL_isNudgedSo 165 = .ok (.iload_n 3, 1) := by decide +kernel
theorem dL_isNudgedSo_166 : decode cL_isNudgedSo 166 = .ok (.ifCond .lt 27, 3) := by decide +kernel
theorem dL_isNudgedSo_169 : decode cL_isNudgedSo 169 = .ok (.iload 10, 2) := by decide +kernel
theorem dL_isNudgedSo_171 : decode cL_isNudgedSo 171 = .ok (.ifCond .ne 7, 3) := by decide +kernel
theorem dL_isNudgedSo_174 : decode cL_isNudgedSo 174 = .ok (.iconst 1, 1) := by decide +kernel
theorem dL_isNudgedSo_175 : decode cL_isNudgedSo 175 = .ok (.goto 4, 3) := by decide +kernel
theorem dL_isNudgedSo_178 : decode cL_isNudgedSo 178 = .ok (.iconst 0, 1) := by decide +kernel
theorem dL_isNudgedSo_179 : decode cL_isNudgedSo 179 = .ok (.iload 8, 2) := by decide +kernel
theorem dL_isNudgedSo_181 : decode cL_isNudgedSo 181 = .ok (.iload_n 3, 1) := by decide +kernel
theorem dL_isNudgedSo_182 : decode cL_isNudgedSo 182 = .ok (.if_icmp .lt 7, 3) := by decide +kernel
theorem dL_isNudgedSo_185 : decode cL_isNudgedSo 185 = .ok (.iconst 1, 1) := by decide +kernel
theorem dL_isNudgedSo_186 : decode cL_isNudgedSo 186 = .ok (.goto 4, 3) := by decide +kernel
theorem dL_isNudgedSo_189 : decode cL_isNudgedSo 189 = .ok (.iconst 0, 1) := by decide +kernel
theorem dL_isNudgedSo_190 : decode cL_isNudgedSo 190 = .ok (.if_icmp .ne 16, 3) := by decide +kernel
theorem dL_isNudgedSo_193 : decode cL_isNudgedSo 193 = .ok (.iload_n 3, 1) := by decide +kernel
theorem dL_isNudgedSo_194 : decode cL_isNudgedSo 194 = .ok (.ifCond .gt 8, 3) := by decide +kernel
theorem dL_isNudgedSo_197 : decode cL_isNudgedSo 197 = .ok (.iload 10, 2) := by decide +kernel
theorem dL_isNudgedSo_199 : decode cL_isNudgedSo 199 = .ok (.ifCond .le 7, 3) := by decide +kernel
theorem dL_isNudgedSo_202 : decode cL_isNudgedSo 202 = .ok (.iconst 1, 1) := by decide +kernel
theorem dL_isNudgedSo_203 : decode cL_isNudgedSo 203 = .ok (.goto 4, 3) := by decide +kernel
theorem dL_isNudgedSo_206 : decode cL_isNudgedSo 206 = .ok (.iconst 0, 1) := by decide +kernel
theorem dL_isNudgedSo_207 : decode cL_isNudgedSo 207 = .ok (.istore 7, 2) := by decide +kernel
theorem dL_isNudgedSo_209 : decode cL_isNudgedSo 209 = .ok (.iload 10, 2) := by decide +kernel
theorem dL_isNudgedSo_211 : decode cL_isNudgedSo 211 = .ok (.istore 6, 2) := by decide +kernel
theorem dL_isNudgedSo_213 : decode cL_isNudgedSo 213 = .ok (.iinc 8 1, 3) := by decide +kernel
theorem dL_isNudgedSo_216 : decode cL_isNudgedSo 216 = .ok (.goto (-122), 3) := by decide +kernel
theorem dL_isNudgedSo_219 : decode cL_isNudgedSo 219 = .ok (.iload 7, 2) := by decide +kernel
theorem dL_isNudgedSo_221 : decode cL_isNudgedSo 221 = .ok (.ireturn, 1) := by decide +kernel
set_option maxRecDepth 20000 in
theorem ggL_law_X0_init : GoodIn wsL_law wsX0_init := goodIn_r _ [6, 7, 8, 9, 10, 11, 12, 13, 14, 15, 16, 17, 18, 19, 20, 21, 22, 233, 234, 235, 236, 237, 238, 239, 240, 241, 242, 243, 244] (by decide +kernel) (by decide +kernel)
set_option maxRecDepth 20000 in
theorem gL_law_X0_init : GoodIn wsL_law (wsX0_init) := ggL_law_X0_init
set_option maxRecDepth 20000 in
theorem ggL_law_L_cell : GoodIn wsL_law wsL_cell := goodIn_r _ [26] (by decide +kernel) (by decide +kernel)
set_option maxRecDepth 20000 in
theorem gL_law_L_cell : GoodIn wsL_law (va_wsS RL 102 yL_cell wsL_cell) := goodIn_app (goodIn_of _ (by decide +kernel)) ggL_law_L_cell
set_option maxRecDepth 20000 in
theorem ggL_law_L_act : GoodIn wsL_law wsL_act := goodIn_ca (goodIn_ca (goodIn_r _ [29, 3, 30, 31, 25, 32, 33, 34, 35, 36, 37, 38, 39, 40, 2, 41, 18, 19, 11, 42, 43, 44, 45, 46, 47, 48, 49, 50, 51, 52, 53, 54, 55, 56, 57, 58, 59, 60, 61, 62, 63, 64, 65, 66, 67, 68, 69, 20, 21, 22, 70, 71, 72, 73, 74, 75, 76, 77, 12, 78, 79, 80, 81, 82, 83, 84, 85, 86, 87, 88, 89, 14, 90, 91, 92, 93, 94, 95, 96, 97, 98, 99, 13, 15, 16, 17, 100, 101, 102, 103, 104, 105, 106, 107, 108, 109, 110, 111, 112, 113, 114, 115, 116, 117, 118, 119, 120, 121, 122, 123, 124, 125, 126, 127, 128, 129, 130, 131, 132, 133, 134, 135, 136, 137, 138, 139, 140, 141, 142, 143, 144, 145, 146, 147, 148, 149, 150, 151, 152, 153, 154, 233, 234, 235, 236, 237, 238, 239, 240, 241, 242, 243, 244] (by decide +kernel) (by decide +kernel)) (goodIn_sub (fun _ h => List.mem_append_left _ (List.mem_append_right _ h)) (by decide +kernel))) (goodIn_sub (fun _ h => List.mem_append_right _ h) (by decide +kernel))
set_option maxRecDepth 20000 in
theorem gL_law_L_act : GoodIn wsL_law (va_wsS RL 106 yL_act wsL_act) := goodIn_app (goodIn_of _ (by decide +kernel)) ggL_law_L_act
set_option maxRecDepth 20000 in
theorem ggL_law_L_areAlike : GoodIn wsL_law wsL_areAlike := goodIn_ca (goodIn_ca (goodIn_r _ [157, 158, 159, 160, 2, 161, 47, 48, 49, 50, 51, 52, 53, 54, 18, 19, 55, 56, 57, 58, 59, 60, 61, 62, 162, 163, 164, 165, 81, 82, 166, 167, 168, 169, 11, 170, 171, 172, 144, 145, 146, 147, 78, 79, 80, 173, 174, 175, 176, 12, 177, 178, 179, 180, 13, 181, 182, 183, 184, 14, 185, 186, 187, 188, 15, 189, 190, 191, 192, 16, 193, 194, 195, 196, 90, 91, 92, 42, 43, 44, 45, 46, 100, 101, 102, 103, 104, 105, 106, 107, 21, 108, 109, 110, 111, 112, 113, 114, 115, 116, 117, 118, 119, 120, 121, 122, 123, 124, 125, 126, 127, 22, 128, 129, 130, 131, 132, 133, 134, 20, 135, 136, 137, 138, 139, 140, 197, 198, 199, 200, 17, 233, 234, 235, 236, 237, 238, 239, 240, 241, 242, 243, 244] (by decide +kernel) (by decide +kernel)) (goodIn_sub (fun _ h => List.mem_append_right _ h) (by decide +kernel))) (goodIn_sub (fun _ h => List.mem_append_left _ (List.mem_append_right _ h)) (by decide +kernel))
set_option maxRecDepth 20000 in
theorem gL_law_L_areAlike : GoodIn wsL_law (va_wsS RL 109 yL_areAlike wsL_areAlike) := goodIn_app (goodIn_of _ (by decide +kernel)) ggL_law_L_areAlike
set_option maxRecDepth 20000 in
theorem ggL_law_L_areWrensSo : GoodIn wsL_law wsL_areWrensSo := goodIn_ca (goodIn_ca (goodIn_r _ [203, 144, 145, 146, 2, 147, 11, 78, 79, 80, 81, 82, 177, 178, 179, 180, 13, 204, 205, 206, 207, 90, 91, 92, 42, 43, 44, 45, 46, 51, 52, 53, 54, 18, 19, 55, 56, 57, 58, 59, 60, 61, 62, 185, 186, 187, 188, 15, 181, 182, 183, 184, 14, 189, 190, 191, 192, 16, 173, 174, 175, 176, 12, 197, 198, 199, 200, 17, 233, 234, 235, 236, 237, 238, 239, 240, 241, 242, 243, 244] (by decide +kernel) (by decide +kernel)) (goodIn_sub (fun _ h => List.mem_append_right _ h) (by decide +kernel))) (goodIn_sub (fun _ h => List.mem_append_left _ (List.mem_append_right _ h)) (by decide +kernel))
set_option maxRecDepth 20000 in
theorem gL_law_L_areWrensSo : GoodIn wsL_law (va_wsS RL 113 yL_areWrensSo wsL_areWrensSo) := goodIn_app (goodIn_of _ (by decide +kernel)) ggL_law_L_areWrensSo
set_option maxRecDepth 20000 in
theorem ggL_law_L_low : GoodIn wsL_law wsL_low := goodIn_r _ [32, 33] (by decide +kernel) (by decide +kernel)
set_option maxRecDepth 20000 in
theorem gL_law_L_low : GoodIn wsL_law (va_wsS RL 34 yL_low wsL_low) := goodIn_app (goodIn_of _ (by decide +kernel)) ggL_law_L_low
set_option maxRecDepth 20000 in
theorem ggL_law_L_isScaleSo : GoodIn wsL_law wsL_isScaleSo := goodIn_ca (goodIn_ca (goodIn_r _ [210, 158, 159, 160, 2, 161, 47, 48, 49, 50, 51, 52, 53, 54, 18, 19, 55, 56, 57, 58, 59, 60, 61, 62, 211, 212, 213, 214, 90, 91, 92, 42, 43, 44, 45, 46, 108, 109, 110, 111, 112, 113, 114, 115, 116, 117, 118, 119, 162, 163, 164, 165, 81, 82, 204, 205, 206, 207, 233, 234, 235, 236, 237, 238, 239, 240, 241, 242, 243, 244] (by decide +kernel) (by decide +kernel)) (goodIn_sub (fun _ h => List.mem_append_left _ (List.mem_append_right _ h)) (by decide +kernel))) (goodIn_sub (fun _ h => List.mem_append_right _ h) (by decide +kernel))
set_option maxRecDepth 20000 in
theorem gL_law_L_isScaleSo : GoodIn wsL_law (va_wsS RL 117 yL_isScaleSo wsL_isScaleSo) := goodIn_app (goodIn_of _ (by decide +kernel)) ggL_law_L_isScaleSo
set_option maxRecDepth 20000 in
theorem ggL_law_L_areKeysSo : GoodIn wsL_law wsL_areKeysSo := goodIn_ca (goodIn_ca (goodIn_r _ [217, 218, 219, 220, 2, 221, 42, 43, 44, 45, 46, 222, 223, 224, 225, 17, 55, 56, 57, 58, 59, 60, 61, 62, 226, 227, 228, 229, 177, 178, 179, 180, 13, 78, 79, 80, 81, 82, 233, 234, 235, 236, 237, 238, 239, 240, 241, 242, 243, 244] (by decide +kernel) (by decide +kernel)) (goodIn_sub (fun _ h => List.mem_append_left _ (List.mem_append_right _ h)) (by decide +kernel))) (goodIn_sub (fun _ h => List.mem_append_right _ h) (by decide +kernel))
set_option maxRecDepth 20000 in
theorem gL_law_L_areKeysSo : GoodIn wsL_law (va_wsS RL 121 yL_areKeysSo wsL_areKeysSo) := goodIn_app (goodIn_of _ (by decide +kernel)) ggL_law_L_areKeysSo
set_option maxRecDepth 20000 in
theorem ggL_law_L_isNudgedSo : GoodIn wsL_law wsL_isNudgedSo := goodIn_ca (goodIn_ca (goodIn_r _ [232, 193, 194, 195, 2, 196, 11, 78, 79, 80, 81, 82, 90, 91, 92, 42, 43, 44, 45, 46, 100, 101, 102, 103, 104, 105, 106, 107, 21, 108, 109, 110, 111, 112, 113, 114, 115, 51, 52, 53, 54, 18, 19, 55, 56, 57, 58, 59, 60, 61, 62, 116, 117, 118, 119, 120, 121, 122, 123, 12, 124, 125, 126, 127, 22, 128, 129, 130, 131, 132, 133, 134, 20, 135, 136, 137, 138, 139, 140, 151, 152, 153, 154, 96, 97, 98, 99, 13, 14, 15, 16, 17, 47, 48, 49, 50, 141, 142, 143, 144, 145, 146, 147, 173, 174, 175, 176, 233, 234, 235, 236, 237, 238, 239, 240, 241, 242, 243, 244] (by decide +kernel) (by decide +kernel)) (goodIn_sub (fun _ h => List.mem_append_right _ h) (by decide +kernel))) (goodIn_sub (fun _ h => List.mem_append_left _ (List.mem_append_right _ h)) (by decide +kernel))
set_option maxRecDepth 20000 in
theorem gL_law_L_isNudgedSo : GoodIn wsL_law (va_wsS RL 124 yL_isNudgedSo wsL_isNudgedSo) := goodIn_app (goodIn_of _ (by decide +kernel)) ggL_law_L_isNudgedSo
theorem dL_law_0 : decode cL_law 0 = .ok (.new 9, 3) := by decide +kernel
theorem dL_law_3 : decode cL_law 3 = .ok (.dup, 1) := by decide +kernel
theorem dL_law_4 : decode cL_law 4 = .ok (.invokespecial 101, 3) := by decide +kernel
theorem dL_law_7 : decode cL_law 7 = .ok (.astore_n 1, 1) := by decide +kernel
theorem dL_law_8 : decode cL_law 8 = .ok (.new 9, 3) := by decide +kernel
theorem dL_law_11 : decode cL_law 11 = .ok (.dup, 1) := by decide +kernel
theorem dL_law_12 : decode cL_law 12 = .ok (.invokespecial 101, 3) := by decide +kernel
theorem dL_law_15 : decode cL_law 15 = .ok (.astore_n 2, 1) := by decide +kernel
theorem dL_law_16 : decode cL_law 16 = .ok (.iconst 0, 1) := by decide +kernel
theorem dL_law_17 : decode cL_law 17 = .ok (.istore_n 3, 1) := by decide +kernel
theorem dL_law_18 : decode cL_law 18 = .ok (.iload_n 3, 1) := by decide +kernel
theorem dL_law_19 : decode cL_law 19 = .ok (.bipush 64, 2) := by decide +kernel
theorem dL_law_21 : decode cL_law 21 = .ok (.if_icmp .ge 170, 3) := by decide +kernel
theorem dL_law_24 : decode cL_law 24 = .ok (.aload_n 0, 1) := by decide +kernel
theorem dL_law_25 : decode cL_law 25 = .ok (.iload_n 3, 1) := by decide +kernel
theorem dL_law_26 : decode cL_law 26 = .ok (.invokestatic 102, 3) := by decide +kernel
theorem dL_law_29 : decode cL_law 29 = .ok (.istore 4, 2) := by decide +kernel
theorem dL_law_31 : decode cL_law 31 = .ok (.aload_n 1, 1) := by decide +kernel
theorem dL_law_32 : decode cL_law 32 = .ok (.iload 4, 2) := by decide +kernel
theorem dL_law_34 : decode cL_law 34 = .ok (.invokestatic 106, 3) := by decide +kernel
theorem dL_law_37 : decode cL_law 37 = .ok (.istore 5, 2) := by decide +kernel
theorem dL_law_39 : decode cL_law 39 = .ok (.iload 5, 2) := by decide +kernel
theorem dL_law_41 : decode cL_law 41 = .ok (.ldc 16, 2) := by decide +kernel
theorem dL_law_43 : decode cL_law 43 = .ok (.if_icmp .eq 14, 3) := by decide +kernel
theorem dL_law_46 : decode cL_law 46 = .ok (.aload_n 2, 1) := by decide +kernel
theorem dL_law_47 : decode cL_law 47 = .ok (.iload 4, 2) := by decide +kernel
theorem dL_law_49 : decode cL_law 49 = .ok (.invokestatic 106, 3) := by decide +kernel
theorem dL_law_52 : decode cL_law 52 = .ok (.iload 5, 2) := by decide +kernel
theorem dL_law_54 : decode cL_law 54 = .ok (.if_icmp .ne 18, 3) := by decide +kernel
theorem dL_law_57 : decode cL_law 57 = .ok (.aload_n 1, 1) := by decide +kernel
theorem dL_law_58 : decode cL_law 58 = .ok (.aload_n 2, 1) := by decide +kernel
theorem dL_law_59 : decode cL_law 59 = .ok (.invokestatic 109, 3) := by decide +kernel
theorem dL_law_62 : decode cL_law 62 = .ok (.ifCond .eq 10, 3) := by decide +kernel
theorem dL_law_65 : decode cL_law 65 = .ok (.aload_n 1, 1) := by decide +kernel
theorem dL_law_66 : decode cL_law 66 = .ok (.invokestatic 113, 3) := by decide +kernel
theorem dL_law_69 : decode cL_law 69 = .ok (.ifCond .ne 5, 3) := by decide +kernel
theorem dL_law_72 : decode cL_law 72 = .ok (.iconst 0, 1) := by decide +kernel
theorem dL_law_73 : decode cL_law 73 = .ok (.ireturn, 1) := by decide +kernel
theorem dL_law_74 : decode cL_law 74 = .ok (.iload_n 3, 1) := by decide +kernel
theorem dL_law_75 : decode cL_law 75 = .ok (.bipush 8, 2) := by decide +kernel
theorem dL_law_77 : decode cL_law 77 = .ok (.irem, 1) := by decide +kernel
theorem dL_law_78 : decode cL_law 78 = .ok (.iconst 3, 1) := by decide +kernel
theorem dL_law_79 : decode cL_law 79 = .ok (.if_icmp .ne 20, 3) := by decide +kernel
theorem dL_law_82 : decode cL_law 82 = .ok (.aload_n 1, 1) := by decide +kernel
theorem dL_law_83 : decode cL_law 83 = .ok (.iload 4, 2) := by decide +kernel
theorem dL_law_85 : decode cL_law 85 = .ok (.iconst 3, 1) := by decide +kernel
theorem dL_law_86 : decode cL_law 86 = .ok (.ishr, 1) := by decide +kernel
theorem dL_law_87 : decode cL_law 87 = .ok (.sipush 12001, 3) := by decide +kernel
theorem dL_law_90 : decode cL_law 90 = .ok (.invokestatic 34, 3) := by decide +kernel
theorem dL_law_93 : decode cL_law 93 = .ok (.invokestatic 117, 3) := by decide +kernel
theorem dL_law_96 : decode cL_law 96 = .ok (.ifCond .eq 27, 3) := by decide +kernel
theorem dL_law_99 : decode cL_law 99 = .ok (.iload_n 3, 1) := by decide +kernel
theorem dL_law_100 : decode cL_law 100 = .ok (.bipush 8, 2) := by decide +kernel
theorem dL_law_102 : decode cL_law 102 = .ok (.irem, 1) := by decide +kernel
theorem dL_law_103 : decode cL_law 103 = .ok (.iconst 5, 1) := by decide +kernel
theorem dL_law_104 : decode cL_law 104 = .ok (.if_icmp .ne 21, 3) := by decide +kernel
theorem dL_law_107 : decode cL_law 107 = .ok (.aload_n 1, 1) := by decide +kernel
theorem dL_law_108 : decode cL_law 108 = .ok (.iload 4, 2) := by decide +kernel
theorem dL_law_110 : decode cL_law 110 = .ok (.iconst 4, 1) := by decide +kernel
theorem dL_law_111 : decode cL_law 111 = .ok (.ishr, 1) := by decide +kernel
theorem dL_law_112 : decode cL_law 112 = .ok (.bipush 8, 2) := by decide +kernel
theorem dL_law_114 : decode cL_law 114 = .ok (.invokestatic 34, 3) := by decide +kernel
theorem dL_law_117 : decode cL_law 117 = .ok (.invokestatic 121, 3) := by decide +kernel
theorem dL_law_120 : decode cL_law 120 = .ok (.ifCond .ne 5, 3) := by decide +kernel
theorem dL_law_123 : decode cL_law 123 = .ok (.iconst 0, 1) := by decide +kernel
theorem dL_law_124 : decode cL_law 124 = .ok (.ireturn, 1) := by decide +kernel
theorem dL_law_125 : decode cL_law 125 = .ok (.iload_n 3, 1) := by decide +kernel
theorem dL_law_126 : decode cL_law 126 = .ok (.bipush 6, 2) := by decide +kernel
theorem dL_law_128 : decode cL_law 128 = .ok (.irem, 1) := by decide +kernel
theorem dL_law_129 : decode cL_law 129 = .ok (.iconst 4, 1) := by decide +kernel
theorem dL_law_130 : decode cL_law 130 = .ok (.if_icmp .ne 55, 3) := by decide +kernel
theorem dL_law_133 : decode cL_law 133 = .ok (.aload_n 1, 1) := by decide +kernel
theorem dL_law_134 : decode cL_law 134 = .ok (.iload 4, 2) := by decide +kernel
theorem dL_law_136 : decode cL_law 136 = .ok (.iconst 2, 1) := by decide +kernel
theorem dL_law_137 : decode cL_law 137 = .ok (.ishr, 1) := by decide +kernel
theorem dL_law_138 : decode cL_law 138 = .ok (.iconst 4, 1) := by decide +kernel
theorem dL_law_139 : decode cL_law 139 = .ok (.invokestatic 34, 3) := by decide +kernel
theorem dL_law_142 : decode cL_law 142 = .ok (.iload 4, 2) := by decide +kernel
theorem dL_law_144 : decode cL_law 144 = .ok (.iconst 3, 1) := by decide +kernel
theorem dL_law_145 : decode cL_law 145 = .ok (.ishr, 1) := by decide +kernel
theorem dL_law_146 : decode cL_law 146 = .ok (.sipush 12001, 3) := by decide +kernel
theorem dL_law_149 : decode cL_law 149 = .ok (.invokestatic 34, 3) := by decide +kernel
theorem dL_law_152 : decode cL_law 152 = .ok (.invokestatic 124, 3) := by decide +kernel
theorem dL_law_155 : decode cL_law 155 = .ok (.ifCond .eq 28, 3) := by decide +kernel
theorem dL_law_158 : decode cL_law 158 = .ok (.aload_n 2, 1) := by decide +kernel
theorem dL_law_159 : decode cL_law 159 = .ok (.iload 4, 2) := by decide +kernel
theorem dL_law_161 : decode cL_law 161 = .ok (.iconst 2, 1) := by decide +kernel
theorem dL_law_162 : decode cL_law 162 = .ok (.ishr, 1) := by decide +kernel
theorem dL_law_163 : decode cL_law 163 = .ok (.iconst 4, 1) := by decide +kernel
theorem dL_law_164 : decode cL_law 164 = .ok (.invokestatic 34, 3) := by decide +kernel
theorem dL_law_167 : decode cL_law 167 = .ok (.iload 4, 2) := by decide +kernel
theorem dL_law_169 : decode cL_law 169 = .ok (.iconst 3, 1) := by decide +kernel
theorem dL_law_170 : decode cL_law 170 = .ok (.ishr, 1) := by decide +kernel
theorem dL_law_171 : decode cL_law 171 = .ok (.sipush 12001, 3) := by decide +kernel
theorem dL_law_174 : decode cL_law 174 = .ok (.invokestatic 34, 3) := by decide +kernel
theorem dL_law_177 : decode cL_law 177 = .ok (.invokestatic 124, 3) := by decide +kernel
theorem dL_law_180 : decode cL_law 180 = .ok (.ifCond .ne 5, 3) := by decide +kernel
theorem dL_law_183 : decode cL_law 183 = .ok (.iconst 0, 1) := by decide +kernel
theorem dL_law_184 : decode cL_law 184 = .ok (.ireturn, 1) := by decide +kernel
theorem dL_law_185 : decode cL_law 185 = .ok (.iinc 3 1, 3) := by decide +kernel
theorem dL_law_188 : decode cL_law 188 = .ok (.goto (-170), 3) := by decide +kernel
theorem dL_law_191 : decode cL_law 191 = .ok (.aload_n 1, 1) := by decide +kernel
theorem dL_law_192 : decode cL_law 192 = .ok (.aload_n 2, 1) := by decide +kernel
theorem dL_law_193 : decode cL_law 193 = .ok (.invokestatic 109, 3) := by decide +kernel
theorem dL_law_196 : decode cL_law 196 = .ok (.ireturn, 1) := by decide +kernel
end
section
/-! the scale's rungs one after the other -/
abbrev zH (c : C5) (k : Nat) : Prop := ¬ zStep c (nI (100 * k)) = -1
theorem zStep_k {c : C5} {k : Nat} (hk : k ≤ 120) : zStep c (nI (100 * k)) = zSt c.2.1 ((k + 12 - c.1) % 12) := by
  unfold zStep
  have e1 : nI (100 * k) - nI (100 * k) / 100 * 100 = nI (100 * k % 100) := pk_rem (d := 100) (by omega) (by decide) (by decide)
  have e2 : nI (100 * k) - nI (100 * k) / 100 * 100 = 0 := (e1.trans (congrArg nI (Nat.mul_mod_right 100 k))).trans nI_0
  rw [if_pos ⟨nI_pos' (by omega), (nI_leI (b := 12000) (by omega) (by decide)).mpr (by omega), e2⟩, nI_clamp (by omega), Nat.mul_div_cancel_left k (by decide : 0 < 100)]
def zNn (md : Nat) : Int32 := if md = 7 then 12 else 7
theorem zSt_cons : ∀ md, md < 8 → ∀ r, r < 12 → zSt md r = -1 → ¬ zSt md ((r + 1) % 12) = -1 := by decide +kernel
theorem zSt_nx1 : ∀ md, md < 8 → ∀ r, r < 12 → ¬ zSt md r = -1 → ¬ zSt md ((r + 1) % 12) = -1 → zSt md ((r + 1) % 12) = (zSt md r + 1) - (zSt md r + 1) / zNn md * zNn md := by decide +kernel
theorem zSt_nx2 : ∀ md, md < 8 → ∀ r, r < 12 → ¬ zSt md r = -1 → zSt md ((r + 1) % 12) = -1 → zSt md ((r + 2) % 12) = (zSt md r + 1) - (zSt md r + 1) / zNn md * zNn md := by decide +kernel
theorem zSt_0 : ∀ md, md < 8 → zSt md 0 = 0 := by decide +kernel
def zMk : Nat → Nat
  | 0 => 2741
  | 1 => 1709
  | 2 => 1451
  | 3 => 2773
  | 4 => 1717
  | 5 => 1453
  | 6 => 1387
  | _ => 4095
theorem zMk_ok : ∀ md, md < 8 → ∀ r, r < 12 → (zSt md r = -1 ↔ zMk md / 2 ^ r % 2 = 0) := by decide +kernel
def zCk (md ky : Nat) : Nat → Nat
  | 0 => 0
  | k + 1 => zCk md ky k + zMk md / 2 ^ ((k + 12 - ky) % 12) % 2
theorem zCk_121 : ∀ md, md < 8 → ∀ ky, ky < 12 → (md = 7 → zCk md ky 121 = 121) ∧ (¬ md = 7 → zCk md ky 121 = 70 ∨ zCk md ky 121 = 71) := by decide +kernel
theorem zCt_1 {c : C5} (hc : okC c) {k : Nat} (h : zH c k) : zCt c (k + 1) = zCt c k + 1 := by
  show zCt c k + (if _ then _ else _) = _
  rw [if_neg (fun q => h ((zStep_neg hc _).mp q))]
theorem zCt_0 {c : C5} (hc : okC c) {k : Nat} (h : zStep c (nI (100 * k)) = -1) : zCt c (k + 1) = zCt c k := by
  show zCt c k + (if _ then _ else _) = _
  rw [if_pos ((zStep_neg hc _).mpr h), Nat.add_zero]
theorem zCt_k {c : C5} (hc : okC c) : ∀ k, k ≤ 121 → zCt c k = zCk c.2.1 c.1 k := by
  intro k
  induction k with
  | zero => exact fun _ => rfl
  | succ k ih =>
    intro hk
    have h1 := zMk_ok c.2.1 hc.2.1 ((k + 12 - c.1) % 12) (Nat.mod_lt _ (by decide))
    rw [← zStep_k (c := c) (k := k) (by omega)] at h1
    show _ = zCk c.2.1 c.1 k + zMk c.2.1 / 2 ^ ((k + 12 - c.1) % 12) % 2
    rw [← ih (by omega)]
    generalize zMk c.2.1 / 2 ^ ((k + 12 - c.1) % 12) = X at h1 ⊢
    by_cases q : zStep c (nI (100 * k)) = -1
    · rw [zCt_0 hc q, h1.mp q, Nat.add_zero]
    · have h3 : ¬ X % 2 = 0 := fun x => q (h1.mpr x)
      rw [zCt_1 hc q, show X % 2 = 1 by omega]
theorem zRc_n (c : C5) : zRc c = nI (zCt c 121) := zRcn_ct c 121
theorem zCt_121 {c : C5} (hc : okC c) : (c.2.1 = 7 → zCt c 121 = 121) ∧ (¬ c.2.1 = 7 → zCt c 121 = 70 ∨ zCt c 121 = 71) := by
  rw [zCt_k hc 121 (Nat.le_refl _)]
  exact zCk_121 _ hc.2.1 _ hc.1
theorem zCt_le2 (c : C5) {k n : Nat} (h : k ≤ n) : zCt c k ≤ zCt c n := by
  have := zCt_mono c k (n - k)
  rwa [show k + (n - k) = n by omega] at this
theorem zH_2 {c : C5} (hc : okC c) {k : Nat} (hk : k + 1 ≤ 120) (h : zStep c (nI (100 * k)) = -1) : zH c (k + 1) := by
  have h1 := hc.1
  show ¬ zStep c (nI (100 * (k + 1))) = -1
  rw [zStep_k (by omega)] at h
  rw [zStep_k hk, show (k + 1 + 12 - c.1) % 12 = ((k + 12 - c.1) % 12 + 1) % 12 by omega]
  exact zSt_cons _ hc.2.1 _ (Nat.mod_lt _ (by decide)) h
/-- the next rung -/
theorem zNx {c : C5} (hc : okC c) {b : Nat} (hb : b ≤ 121) (h : zCt c b < zCt c 121) : ∃ j, j ≤ 120 ∧ zH c j ∧ zCt c j = zCt c b ∧ (j = b ∨ (j = b + 1 ∧ zStep c (nI (100 * b)) = -1)) := by
  rcases Nat.lt_or_ge b 121 with q | q
  · by_cases q2 : zStep c (nI (100 * b)) = -1
    · have e := zCt_0 hc q2
      rcases Nat.lt_or_ge b 120 with q3 | q3
      · exact ⟨b + 1, by omega, zH_2 hc (by omega) q2, e, Or.inr ⟨rfl, q2⟩⟩
      · have hb2 : b = 120 := by omega
        subst hb2
        have e2 : zCt c 121 = zCt c 120 := e
        omega
    · exact ⟨b, by omega, q2, rfl, Or.inl rfl⟩
  · have hb2 : b = 121 := by omega
    subst hb2
    exact absurd h (Nat.lt_irrefl _)
theorem zH_st {c : C5} {k : Nat} (hk : k ≤ 120) (h : zH c k) : ¬ zSt c.2.1 ((k + 12 - c.1) % 12) = -1 := by
  rw [← zStep_k (c := c) (k := k) hk]
  exact h
theorem zNx_s {c : C5} (hc : okC c) {b j : Nat} (hj : j ≤ 120) (hb : zH c b) (hH : zH c j) (h : j = b + 1 ∨ (j = b + 2 ∧ zStep c (nI (100 * (b + 1))) = -1)) : zStep c (nI (100 * j)) = (zStep c (nI (100 * b)) + 1) - (zStep c (nI (100 * b)) + 1) / zNn c.2.1 * zNn c.2.1 := by
  have h1 := hc.1
  rcases h with rfl | ⟨rfl, h2⟩
  · have h3 := zH_st (c := c) (k := b) (by omega) hb
    have h4 := zH_st hj hH
    rw [show (b + 1 + 12 - c.1) % 12 = ((b + 12 - c.1) % 12 + 1) % 12 by omega] at h4
    rw [zStep_k hj, zStep_k (c := c) (k := b) (by omega), show (b + 1 + 12 - c.1) % 12 = ((b + 12 - c.1) % 12 + 1) % 12 by omega]
    exact zSt_nx1 _ hc.2.1 _ (Nat.mod_lt _ (by decide)) h3 h4
  · have h3 := zH_st (c := c) (k := b) (by omega) hb
    rw [zStep_k (c := c) (k := b + 1) (by omega), show (b + 1 + 12 - c.1) % 12 = ((b + 12 - c.1) % 12 + 1) % 12 by omega] at h2
    rw [zStep_k hj, zStep_k (c := c) (k := b) (by omega), show (b + 2 + 12 - c.1) % 12 = ((b + 12 - c.1) % 12 + 2) % 12 by omega]
    exact zSt_nx2 _ hc.2.1 _ (Nat.mod_lt _ (by decide)) h3 h2
theorem zKey {c : C5} (hc : okC c) : zH c c.1 := by
  show ¬ zStep c (nI (100 * c.1)) = -1
  have h1 := hc.1
  rw [zStep_k (by omega), show (c.1 + 12 - c.1) % 12 = 0 by omega, zSt_0 _ hc.2.1]
  decide
theorem zNear_s {c : C5} (hc : okC c) {a : Nat} (ha : a ≤ 12000) : ∃ j, j ≤ 120 ∧ zNear c (nI a) = nI (100 * j) ∧ zH c j ∧ ∀ i, i ≤ 120 → zH c i → zD a j < zD a i ∨ (zD a j = zD a i ∧ j ≤ i) := by
  have h9 := hc.1
  rcases zNearN_char hc ha 121 (Nat.le_refl _) with ⟨h1, h2⟩ | ⟨j, h1, h2, h3, h4⟩
  · exact absurd (h2 c.1 (by omega)) (zKey hc)
  · exact ⟨j, by omega, h2, h3, fun i hi hp => h4 i (by omega) hp⟩
theorem zNear_r {c : C5} (hc : okC c) {j : Nat} (hj : j ≤ 120) (h : zH c j) : zNear c (nI (100 * j)) = nI (100 * j) := by
  refine zNear_is hc (by omega) hj h (fun i hi hp => ?_)
  unfold zD
  by_cases q : i = j
  · subst q; exact Or.inr ⟨rfl, Nat.le_refl _⟩
  · refine Or.inl ?_
    split <;> split <;> omega
theorem zCt_ex {c : C5} (hc : okC c) {m : Nat} : ∀ n, m < zCt c n → ∃ j, j < n ∧ zH c j ∧ zCt c j = m := by
  intro n
  induction n with
  | zero => exact fun h => absurd h (Nat.not_lt_zero _)
  | succ n ih =>
    intro h
    by_cases q : zStep c (nI (100 * n)) = -1
    · rw [zCt_0 hc q] at h
      obtain ⟨j, h1, h2⟩ := ih h
      exact ⟨j, by omega, h2⟩
    · rw [zCt_1 hc q] at h
      rcases Nat.lt_or_ge m (zCt c n) with r | r
      · obtain ⟨j, h1, h2⟩ := ih r
        exact ⟨j, by omega, h2⟩
      · exact ⟨n, by omega, q, by omega⟩
theorem zRg_s {c : C5} (hc : okC c) {m j : Nat} (hj : j ≤ 120) (h : zH c j) (hm : zCt c j = m) : zRg c (nI m) = nI (100 * j) := zRg_hit (by omega) (fun q => h ((zStep_neg hc _).mp q)) (by rw [zRcn_ct, hm])
theorem zRg_ex {c : C5} (hc : okC c) {m : Nat} (hm : m < zCt c 121) : ∃ j, j ≤ 120 ∧ zH c j ∧ zCt c j = m ∧ zRg c (nI m) = nI (100 * j) := by
  obtain ⟨j, h1, h2, h3⟩ := zCt_ex hc 121 hm
  exact ⟨j, by omega, h2, h3, zRg_s hc (by omega) h2 h3⟩
theorem zCt_70 {c : C5} (hc : okC c) : 70 ≤ zCt c 121 ∧ zCt c 121 ≤ 121 := by
  have h := zCt_121 hc
  by_cases q : c.2.1 = 7
  · have := h.1 q; omega
  · have := h.2 q; omega
theorem zRg_p {c : C5} (hc : okC c) {m : Nat} (hm : m < 70) : ¬ zRg c (nI m) < 0 := by
  obtain ⟨j, h1, h2, h3, h4⟩ := zRg_ex hc (m := m) (by have := (zCt_70 hc).1; omega)
  rw [h4]
  exact nI_pos (by omega)
theorem zRg_0 {c : C5} (hc : okC c) : ∃ j, j ≤ 1 ∧ zRg c 0 = nI (100 * j) := by
  obtain ⟨j, h1, h2, h3, h4⟩ := zRg_ex hc (m := 0) (by have := (zCt_70 hc).1; omega)
  refine ⟨j, ?_, h4⟩
  refine Nat.not_lt.mp fun q => ?_
  by_cases q0 : zStep c (nI (100 * 0)) = -1
  · have e1 : zCt c (1 + 1) = zCt c 1 + 1 := zCt_1 hc (zH_2 hc (k := 0) (by decide) q0)
    have e2 := zCt_le2 c (show 1 + 1 ≤ j by omega)
    omega
  · have e1 : zCt c (0 + 1) = zCt c 0 + 1 := zCt_1 hc q0
    have e2 := zCt_le2 c (show 0 + 1 ≤ j by omega)
    omega
/-- no rung is left: the last one lies high -/
theorem zLast {c : C5} (hc : okC c) {b : Nat} (hb : b ≤ 121) (h : zCt c b = zCt c 121) : 120 ≤ b ∧ ∀ j, j ≤ 120 → zH c j → j < b := by
  have key : ∀ j, j ≤ 120 → zH c j → j < b := by
    intro j hj hH
    refine Nat.not_le.mp fun q => ?_
    have e1 := zCt_1 hc hH
    have e2 := zCt_le2 c q
    have e3 := zCt_le2 c (show j + 1 ≤ 121 by omega)
    omega
  refine ⟨Nat.not_lt.mp fun q => ?_, key⟩
  by_cases q0 : zStep c (nI (100 * 119)) = -1
  · have := key 120 (by omega) (zH_2 hc (k := 119) (by decide) q0)
    omega
  · have := key 119 (by omega) q0
    omega
theorem zDist_1 {a j : Nat} (ha : a ≤ 12000) (hj : j ≤ 120) (h : ¬ nI (100 * j) ≤ nI a) : nI (100 * j) - nI a = nI (zD a j) := by
  have h1 : ¬ 100 * j ≤ a := fun q => h ((nI_leI (by omega) (by omega)).mpr q)
  rw [pk_sub (by omega)]
  unfold zD
  rw [if_neg (by omega)]
theorem zDist_2 {a j : Nat} (ha : a ≤ 12000) (hj : j ≤ 120) (h : nI (100 * j) ≤ nI a) : nI a - nI (100 * j) = nI (zD a j) := by
  have h1 : 100 * j ≤ a := (nI_leI (by omega) (by omega)).mp h
  rw [pk_sub h1]
  unfold zD
  split
  · rfl
  · congr 1; omega
end
section
/-! the nudge goes towards what is due, never past it -/
theorem zMulB {m s : Int} (h3 : 0 ≤ s) (h4 : s ≤ 100) : (0 ≤ m → 0 ≤ m * s ∧ m * s ≤ m * 100) ∧ (m ≤ 0 → m * 100 ≤ m * s ∧ m * s ≤ 0) := by
  constructor
  · intro h
    exact ⟨Int.mul_nonneg h h3, Int.mul_le_mul_of_nonneg_left h4 h⟩
  · intro h
    refine ⟨Int.mul_le_mul_of_nonpos_left h h4, ?_⟩
    have := Int.mul_le_mul_of_nonpos_left h h3
    rwa [Int.mul_zero] at this
theorem zTdiv {P m : Int} (h : (0 ≤ P ∧ P ≤ m * 100) ∨ (m * 100 ≤ P ∧ P ≤ 0)) : (0 ≤ P.tdiv ((100 : Nat) : Int) ∧ P.tdiv ((100 : Nat) : Int) ≤ m) ∨ (m ≤ P.tdiv ((100 : Nat) : Int) ∧ P.tdiv ((100 : Nat) : Int) ≤ 0) := by
  rcases h with ⟨h1, h2⟩ | ⟨h1, h2⟩
  · rw [Int.tdiv_eq_ediv_of_nonneg h1]
    omega
  · have e : P.tdiv ((100 : Nat) : Int) = -((-P).tdiv ((100 : Nat) : Int)) := by rw [Int.neg_tdiv, Int.neg_neg]
    rw [e, Int.tdiv_eq_ediv_of_nonneg (show 0 ≤ -P by omega)]
    omega
abbrev zR12 (x : Int32) : Prop := -12000 ≤ x.toInt ∧ x.toInt ≤ 12000
theorem zTow_i {sp n due : Int32} (hs0 : 0 ≤ sp) (hs : sp ≤ 100) (hn : zR12 n) (hd : zR12 due) : ∃ mv : Int, (zTow sp n due).toInt = n.toInt + mv ∧ ((0 ≤ mv ∧ mv ≤ due.toInt - n.toInt) ∨ (due.toInt - n.toInt ≤ mv ∧ mv ≤ 0)) := by
  have s0 : 0 ≤ sp.toInt := (fa_le _ _).mp hs0
  have s1 : sp.toInt ≤ 100 := (fa_le _ _).mp hs
  have e1 : (due - n).toInt = due.toInt - n.toInt := fb_subI (by omega) (by omega)
  have hB := zMulB (m := due.toInt - n.toInt) s0 s1
  have hP : (0 ≤ (due.toInt - n.toInt) * sp.toInt ∧ (due.toInt - n.toInt) * sp.toInt ≤ (due.toInt - n.toInt) * 100) ∨ ((due.toInt - n.toInt) * 100 ≤ (due.toInt - n.toInt) * sp.toInt ∧ (due.toInt - n.toInt) * sp.toInt ≤ 0) := by
    rcases Int.le_total 0 (due.toInt - n.toInt) with q | q
    · exact Or.inl (hB.1 q)
    · exact Or.inr (hB.2 q)
  have e2 : ((due - n) * sp).toInt = (due.toInt - n.toInt) * sp.toInt := by
    rw [← e1]
    refine fb_mulI ?_ ?_ <;> rw [e1] <;> omega
  have e3 : ((due - n) * sp / 100).toInt = ((due.toInt - n.toInt) * sp.toInt).tdiv ((100 : Nat) : Int) := by
    have := z_divI ((due - n) * sp) (d := 100) (by decide) (by decide)
    rw [e2] at this
    exact this
  have hT := zTdiv hP
  rw [← e3] at hT
  have e0 : (0 : Int32).toInt = 0 := rfl
  have e9 : (1 : Int32).toInt = 1 := rfl
  have e8 : (-1 : Int32).toInt = -1 := rfl
  have fin : ∀ x : Int32, ((0 ≤ x.toInt ∧ x.toInt ≤ due.toInt - n.toInt) ∨ (due.toInt - n.toInt ≤ x.toInt ∧ x.toInt ≤ 0)) → ∃ mv : Int, (n + x).toInt = n.toInt + mv ∧ ((0 ≤ mv ∧ mv ≤ due.toInt - n.toInt) ∨ (due.toInt - n.toInt ≤ mv ∧ mv ≤ 0)) := fun x hx => ⟨x.toInt, fb_addI (by omega) (by omega), hx⟩
  unfold zTow
  by_cases q : (due - n) * sp / 100 = 0 ∧ ¬ sp = 0
  · rw [if_pos q]
    by_cases q1 : 0 < due - n
    · rw [if_pos q1]
      have := (fa_lt _ _).mp q1
      exact fin 1 (by omega)
    · rw [if_neg q1]
      by_cases q2 : due - n < 0
      · rw [if_pos q2]
        have := (fa_lt _ _).mp q2
        exact fin (-1) (by omega)
      · rw [if_neg q2]
        have h1 : ¬ (0 < due - n) ↔ _ := not_congr (fa_lt 0 (due - n))
        have h2 : ¬ (due - n < 0) ↔ _ := not_congr (fa_lt (due - n) 0)
        have h3 := h1.mp q1
        have h4 := h2.mp q2
        exact fin 0 (by omega)
  · rw [if_neg q]
    exact fin _ hT
theorem zTow_r {sp n due : Int32} (hs0 : 0 ≤ sp) (hs : sp ≤ 100) (hn : zR12 n) (hd : zR12 due) : zR12 (zTow sp n due) := by
  obtain ⟨mv, h1, h2⟩ := zTow_i hs0 hs hn hd
  show -12000 ≤ (zTow sp n due).toInt ∧ (zTow sp n due).toInt ≤ 12000
  omega
theorem zp_i {p : Int32} (h : zp p) : 0 ≤ p.toInt ∧ p.toInt ≤ 12000 := ⟨(fa_le _ _).mp h.1, (fa_le _ _).mp h.2⟩
theorem zDue_i {r p : Int32} (hr : zp r) (hp : zp p) : (r - p).toInt = r.toInt - p.toInt ∧ zR12 (r - p) := by
  have h1 := zp_i hr
  have h2 := zp_i hp
  have e : (r - p).toInt = r.toInt - p.toInt := fb_subI (by omega) (by omega)
  refine ⟨e, ?_⟩
  show -12000 ≤ (r - p).toInt ∧ (r - p).toInt ≤ 12000
  omega
/-- the nudge after so many more frames -/
def zIt (sp due : Int32) : Nat → Int32 → Int32
  | 0, n => n
  | k + 1, n => zTow sp (zIt sp due k n) due
theorem zIt_s (sp due : Int32) : ∀ k n, zIt sp due k (zTow sp n due) = zIt sp due (k + 1) n := by
  intro k
  induction k with
  | zero => exact fun _ => rfl
  | succ k ih =>
    intro n
    show zTow sp (zIt sp due k (zTow sp n due)) due = zTow sp (zIt sp due (k + 1) n) due
    rw [ih]
theorem zIt_r {sp n due : Int32} (hs0 : 0 ≤ sp) (hs : sp ≤ 100) (hn : zR12 n) (hd : zR12 due) : ∀ k, zR12 (zIt sp due k n) := by
  intro k
  induction k with
  | zero => exact hn
  | succ k ih => exact zTow_r hs0 hs ih hd
/-- how far what is let out is from the rung -/
def zGap (p r n : Int32) : Int32 := if p + n ≤ r then r - (p + n) else (p + n) - r
theorem zGap_i {p r n : Int32} (hp : zp p) (hr : zp r) (hn : zR12 n) : (p + n).toInt = p.toInt + n.toInt ∧ ((p + n ≤ r → (r - (p + n)).toInt = r.toInt - p.toInt - n.toInt) ∧ (¬ p + n ≤ r → ((p + n) - r).toInt = p.toInt + n.toInt - r.toInt)) := by
  have h1 := zp_i hp
  have h2 := zp_i hr
  have e : (p + n).toInt = p.toInt + n.toInt := fb_addI (by omega) (by omega)
  refine ⟨e, fun _ => ?_, fun _ => ?_⟩
  · rw [fb_subI (by omega) (by omega), e]; omega
  · rw [fb_subI (by omega) (by omega), e]
theorem zGap_n {p r n : Int32} (hp : zp p) (hr : zp r) (hn : zR12 n) : (zGap p r n).toInt = (p.toInt + n.toInt - r.toInt).natAbs := by
  obtain ⟨e, h1, h2⟩ := zGap_i hp hr hn
  unfold zGap
  by_cases q : p + n ≤ r
  · rw [if_pos q, h1 q]
    have := (fa_le _ _).mp q
    omega
  · rw [if_neg q, h2 q]
    have : ¬ (p + n).toInt ≤ r.toInt := fun x => q ((fa_le _ _).mpr x)
    omega
theorem zGap_0 {p r n : Int32} (hp : zp p) (hr : zp r) (hn : zR12 n) : zGap p r n = 0 ↔ p + n = r := by
  have h1 := zGap_n hp hr hn
  have h2 := (zGap_i hp hr hn).1
  have e0 : (0 : Int32).toInt = 0 := rfl
  rw [fa_eq, fa_eq (p + n), h1, h2]
  omega
theorem zGap_p {p r n : Int32} (hp : zp p) (hr : zp r) (hn : zR12 n) : 0 ≤ zGap p r n := by
  have h1 := zGap_n hp hr hn
  rw [fa_le, h1]
  exact Int.natCast_nonneg _
theorem zGap_m {sp p r n : Int32} (hs0 : 0 ≤ sp) (hs : sp ≤ 100) (hp : zp p) (hr : zp r) (hn : zR12 n) : zGap p r (zTow sp n (r - p)) ≤ zGap p r n := by
  obtain ⟨ed, hd⟩ := zDue_i hr hp
  obtain ⟨mv, h1, h2⟩ := zTow_i hs0 hs hn hd
  have h3 := zTow_r hs0 hs hn hd
  rw [fa_le, zGap_n hp hr hn, zGap_n hp hr h3, h1]
  omega
theorem zTow_st {sp p r n : Int32} (hs0 : 0 ≤ sp) (hs : sp ≤ 100) (hp : zp p) (hr : zp r) (hn : zR12 n) (h : p + n = r) : p + zTow sp n (r - p) = r := by
  have h9 := zGap_m hs0 hs hp hr hn
  have h3 := zTow_r hs0 hs hn (zDue_i hr hp).2
  have h4 := zGap_p hp hr h3
  rw [(zGap_0 hp hr hn).mpr h] at h9
  exact (zGap_0 hp hr h3).mp (Int32.le_antisymm h9 h4)
theorem zIt_st {sp p r n : Int32} (hs0 : 0 ≤ sp) (hs : sp ≤ 100) (hp : zp p) (hr : zp r) (hn : zR12 n) {j : Nat} (h : p + zIt sp (r - p) j n = r) : ∀ m, p + zIt sp (r - p) (j + m) n = r := by
  intro m
  induction m with
  | zero => exact h
  | succ m ih => exact zTow_st hs0 hs hp hr (zIt_r hs0 hs hn (zDue_i hr hp).2 _) ih
theorem zFf_c (sp p r : Int32) : ∀ f k n, (zFf sp p r f k n = -1 ∧ ∀ j, j < f → ¬ p + zIt sp (r - p) j n = r) ∨ ∃ j, j < f ∧ zFf sp p r f k n = nI (k + j) ∧ p + zIt sp (r - p) j n = r ∧ ∀ i, i < j → ¬ p + zIt sp (r - p) i n = r := by
  intro f
  induction f with
  | zero => exact fun k n => Or.inl ⟨rfl, fun j h => absurd h (Nat.not_lt_zero _)⟩
  | succ f ih =>
    intro k n
    by_cases q : p + n = r
    · refine Or.inr ⟨0, Nat.succ_pos _, if_pos q, q, fun i h => absurd h (Nat.not_lt_zero _)⟩
    · have e : zFf sp p r (f + 1) k n = zFf sp p r f (k + 1) (zTow sp n (r - p)) := if_neg q
      rcases ih (k + 1) (zTow sp n (r - p)) with ⟨h1, h2⟩ | ⟨j, h1, h2, h3, h4⟩
      · refine Or.inl ⟨e.trans h1, fun j hj => ?_⟩
        cases j with
        | zero => exact q
        | succ j => rw [← zIt_s]; exact h2 j (by omega)
      · refine Or.inr ⟨j + 1, by omega, by rw [e, h2, show k + 1 + j = k + (j + 1) by omega], by rw [← zIt_s]; exact h3, fun i hi => ?_⟩
        cases i with
        | zero => exact q
        | succ i => rw [← zIt_s]; exact h4 i (by omega)
/-- the same pitch sung again and again: the rung stays, the nudge goes on -/
def zNg (c : C5) (i : Nat) (p : Int32) (z : S7) : Nat → S7
  | 0 => z
  | k + 1 => zSg c i p (zNg c i p z k)
theorem zNext_idem (c : C5) (r p : Int32) : zNext c (zNext c r p) p = zNext c r p := by
  by_cases q : ¬ r = -1 ∧ zAbs (p - r) ≤ c.2.2.2.1
  · rw [← zNext_k q, ← zNext_k q]
  · rw [← zNext_n q]
    by_cases q2 : ¬ zNear c p = -1 ∧ zAbs (p - zNear c p) ≤ c.2.2.2.1
    · exact (zNext_k q2).symm
    · exact (zNext_n q2).symm
theorem zSg_1 (c : C5) (i : Nat) (p : Int32) (z : S7) : (zSg c i p z).1 i = zR c i p z := pk_us
theorem zSg_2 (c : C5) (i : Nat) (p : Int32) (z : S7) : (zSg c i p z).2.1 i = zG c i p z := pk_us
theorem zSg_r (c : C5) (i : Nat) (p : Int32) (z : S7) : zR c i p (zSg c i p z) = zR c i p z := by
  show zNext c ((zSg c i p z).1 i) p = _
  rw [zSg_1]
  exact zNext_idem c _ p
theorem zSg_g (c : C5) (i : Nat) (p : Int32) (z : S7) : zG c i p (zSg c i p z) = zTow c.2.2.1 (zG c i p z) (zR c i p z - p) := by
  show zNud c ((zSg c i p z).1 i) ((zSg c i p z).2.1 i) (zR c i p (zSg c i p z)) p = _
  rw [zSg_r, zSg_1, zSg_2]
  exact (zNud_n (fun q => q.1.2 rfl)).symm
theorem zNg_rg (c : C5) (i : Nat) (p : Int32) (z : S7) : ∀ k, zR c i p (zNg c i p z k) = zR c i p z ∧ zG c i p (zNg c i p z k) = zIt c.2.2.1 (zR c i p z - p) k (zG c i p z) := by
  intro k
  induction k with
  | zero => exact ⟨rfl, rfl⟩
  | succ k ih =>
    refine ⟨(zSg_r c i p _).trans ih.1, ?_⟩
    show zG c i p (zSg c i p (zNg c i p z k)) = zTow c.2.2.1 (zIt c.2.2.1 (zR c i p z - p) k (zG c i p z)) (zR c i p z - p)
    rw [zSg_g, ih.1, ih.2]
end
section
/-! sums; frames within the scales of a mode -/
def zSu (f : Nat → Nat) : Nat → Nat
  | 0 => 0
  | k + 1 => zSu f k + f k
theorem zSu_add (f g : Nat → Nat) : ∀ n, zSu (fun k => f k + g k) n = zSu f n + zSu g n := by
  intro n
  induction n with
  | zero => rfl
  | succ n ih =>
    show zSu (fun k => f k + g k) n + (f n + g n) = (zSu f n + f n) + (zSu g n + g n)
    rw [ih]; omega
theorem zSu_congr {f g : Nat → Nat} : ∀ n, (∀ k, k < n → f k = g k) → zSu f n = zSu g n := by
  intro n
  induction n with
  | zero => exact fun _ => rfl
  | succ n ih =>
    intro h
    show zSu f n + f n = zSu g n + g n
    rw [ih (fun k hk => h k (by omega)), h n (by omega)]
theorem zSu_le {f g : Nat → Nat} : ∀ n, (∀ k, k < n → f k ≤ g k) → zSu f n ≤ zSu g n := by
  intro n
  induction n with
  | zero => exact fun _ => Nat.le_refl _
  | succ n ih =>
    intro h
    have h1 := ih (fun k hk => h k (by omega))
    have h2 := h n (by omega)
    show zSu f n + f n ≤ zSu g n + g n
    omega
theorem zSu_mem {f : Nat → Nat} : ∀ n, ∀ k, k < n → f k ≤ zSu f n := by
  intro n
  induction n with
  | zero => exact fun k h => absurd h (Nat.not_lt_zero _)
  | succ n ih =>
    intro k h
    show f k ≤ zSu f n + f n
    rcases Nat.lt_or_ge k n with q | q
    · have := ih k q; omega
    · rw [show k = n by omega]; omega
theorem zSu_inc {f g : Nat → Nat} {i : Nat} (h1 : g i = f i + 1) (h2 : ∀ j, j ≠ i → g j = f j) : ∀ n, i < n → zSu g n = zSu f n + 1 := by
  intro n
  induction n with
  | zero => exact fun h => absurd h (Nat.not_lt_zero _)
  | succ n ih =>
    intro h
    show zSu g n + g n = zSu f n + f n + 1
    rcases Nat.lt_or_ge i n with q | q
    · rw [ih q, h2 n (by omega)]; omega
    · have e : i = n := by omega
      subst e
      rw [zSu_congr (f := g) (g := f) i (fun k hk => h2 k (by omega)), h1]; omega
def zNW (md ky : Nat) (su : Nat → Nat) (n : Nat) : Nat := zSu (fun k => if zSt md ((k + 12 - ky) % 12) < 0 then 0 else su k) n
theorem zWn_N {md ky : Nat} {g : Nat → Int32} {su : Nat → Nat} (h : ∀ k, k < 12 → g k = nI (su k)) : ∀ n, n ≤ 12 → zWn md ky g n = nI (zNW md ky su n) := by
  intro n
  induction n with
  | zero => exact fun _ => nI_0.symm
  | succ n ih =>
    intro hn
    by_cases q : zSt md ((n + 12 - ky) % 12) < 0
    · have e : zNW md ky su (n + 1) = zNW md ky su n := by
        show zNW md ky su n + (if _ then 0 else su n) = _
        rw [if_pos q, Nat.add_zero]
      rw [zWn_0 q, ih (by omega), e]
    · have e : zNW md ky su (n + 1) = zNW md ky su n + su n := by
        show zNW md ky su n + (if _ then 0 else su n) = _
        rw [if_neg q]
      rw [zWn_1 q, ih (by omega), h n (by omega), nI_add, e]
theorem zW_N {md ky : Nat} {g : Nat → Int32} {su : Nat → Nat} (h : ∀ k, k < 12 → g k = nI (su k)) : zW md ky g = nI (zNW md ky su 12) := zWn_N h 12 (Nat.le_refl _)
def zC7 (md : Nat) : Nat := if md = 7 then 12 else 7
theorem zCnt : ∀ md, md < 8 → ∀ n, n < 12 → zSu (fun ky => if zSt md ((n + 12 - ky) % 12) < 0 then 0 else 1) 12 = zC7 md := by decide +kernel
theorem zSu_w (md n x : Nat) : ∀ m, zSu (fun ky => if zSt md ((n + 12 - ky) % 12) < 0 then 0 else x) m = x * zSu (fun ky => if zSt md ((n + 12 - ky) % 12) < 0 then 0 else 1) m := by
  intro m
  induction m with
  | zero => exact (Nat.mul_zero x).symm
  | succ m ih =>
    show zSu (fun ky => if zSt md ((n + 12 - ky) % 12) < 0 then 0 else x) m + (if zSt md ((n + 12 - m) % 12) < 0 then 0 else x) = x * (zSu (fun ky => if zSt md ((n + 12 - ky) % 12) < 0 then 0 else 1) m + (if zSt md ((n + 12 - m) % 12) < 0 then 0 else 1))
    rw [ih, Nat.mul_add]
    by_cases q : zSt md ((n + 12 - m) % 12) < 0
    · rw [if_pos q, if_pos q, Nat.mul_zero]
    · rw [if_neg q, if_neg q, Nat.mul_one]
theorem zTotN {md : Nat} (hm : md < 8) (su : Nat → Nat) : ∀ n, n ≤ 12 → zSu (fun ky => zNW md ky su n) 12 = zC7 md * zSu su n := by
  intro n
  induction n with
  | zero => exact fun _ => (Nat.mul_zero (zC7 md)).symm
  | succ n ih =>
    intro hn
    show zSu (fun ky => zNW md ky su n + (if zSt md ((n + 12 - ky) % 12) < 0 then 0 else su n)) 12 = zC7 md * (zSu su n + su n)
    rw [zSu_add (fun ky => zNW md ky su n) (fun ky => if zSt md ((n + 12 - ky) % 12) < 0 then 0 else su n), ih (by omega), zSu_w, zCnt md hm n (by omega), Nat.mul_add, Nat.mul_comm (su n)]
theorem zNW_le (md ky : Nat) (su : Nat → Nat) : zNW md ky su 12 ≤ zSu su 12 := by
  refine zSu_le 12 (fun k hk => ?_)
  show (if _ then 0 else su k) ≤ su k
  split
  · exact Nat.zero_le _
  · exact Nat.le_refl _
theorem zNW_7 (ky : Nat) (su : Nat → Nat) : zNW 7 ky su 12 = zSu su 12 := by
  refine zSu_congr 12 (fun k hk => ?_)
  show (if _ then 0 else su k) = su k
  rw [if_neg]
  rw [zSt_7 _ (Nat.mod_lt _ (by decide))]
  have := Nat.mod_lt (k + 12 - ky) (show 0 < 12 by decide)
  exact nI_pos (by omega)
theorem zBk_c {md : Nat} {g : Nat → Int32} {su : Nat → Nat} (h : ∀ k, k < 12 → g k = nI (su k)) (hb : zSu su 12 < 2 ^ 31) : ∀ n, n ≤ 11 → zBkn md g n ≤ n ∧ (∀ k, k ≤ n → zNW md k su 12 ≤ zNW md (zBkn md g n) su 12) ∧ ∀ k, k < zBkn md g n → zNW md k su 12 < zNW md (zBkn md g n) su 12 := by
  intro n
  induction n with
  | zero => exact fun _ => ⟨Nat.le_refl _, fun k hk => by rw [Nat.le_zero.mp hk]; exact Nat.le_refl _, fun k hk => absurd hk (Nat.not_lt_zero _)⟩
  | succ n ih =>
    intro hn
    obtain ⟨h1, h2, h3⟩ := ih (by omega)
    have b1 := zNW_le md (zBkn md g n) su
    have b2 := zNW_le md (n + 1) su
    have key : zW md (zBkn md g n) g < zW md (n + 1) g ↔ zNW md (zBkn md g n) su 12 < zNW md (n + 1) su 12 := by
      rw [zW_N h, zW_N h]
      exact nI_ltI (by omega) (by omega)
    by_cases q : zW md (zBkn md g n) g < zW md (n + 1) g
    · have e : zBkn md g (n + 1) = n + 1 := if_pos q
      have q2 := key.mp q
      rw [e]
      refine ⟨Nat.le_refl _, fun k hk => ?_, fun k hk => ?_⟩
      · rcases Nat.lt_or_ge k (n + 1) with r | r
        · have := h2 k (by omega); omega
        · rw [show k = n + 1 by omega]; exact Nat.le_refl _
      · have := h2 k (by omega); omega
    · have e : zBkn md g (n + 1) = zBkn md g n := if_neg q
      have q2 : ¬ zNW md (zBkn md g n) su 12 < zNW md (n + 1) su 12 := fun x => q (key.mpr x)
      rw [e]
      refine ⟨by omega, fun k hk => ?_, h3⟩
      rcases Nat.lt_or_ge k (n + 1) with r | r
      · exact h2 k (by omega)
      · rw [show k = n + 1 by omega]; omega
end
section
/-! what holds of an aviary all along -/
def zCs (B : Nat) (z : S7) : Prop := ∃ fr ch le cl su : Nat → Nat, (∀ i, i < 4 → z.2.2.1 i = nI (fr i) ∧ z.2.2.2.1 i = nI (ch i) ∧ z.2.2.2.2.1 i = nI (le i) ∧ z.2.2.2.2.2.1 i = nI (cl i) ∧ le i ≤ ch i ∧ ch i ≤ fr i ∧ cl i ≤ fr i) ∧ (∀ k, k < 12 → z.2.2.2.2.2.2 k = nI (su k)) ∧ zSu fr 4 = zSu su 12 ∧ zSu su 12 ≤ B
def zRs (c : C5) (r : Nat → Int32) : Prop := ∀ i, i < 4 → r i = -1 ∨ ∃ j, j ≤ 120 ∧ r i = nI (100 * j) ∧ zH c j
def zInv (B : Nat) (z : S7) (c : C5) : Prop := (c.1 < 12 ∧ c.2.1 < 8 ∧ 0 ≤ c.2.2.1 ∧ c.2.2.1 ≤ 100) ∧ zRs c z.1 ∧ (∀ i, i < 4 → zR12 (z.2.1 i)) ∧ zCs B z
theorem zInv.okC {B : Nat} {z : S7} {c : C5} (h : zInv B z c) : okC c := ⟨h.1.1, h.1.2.1, h.1.2.2.1⟩
theorem zInv.mono {B B2 : Nat} {z : S7} {c : C5} (h : zInv B z c) (hB : B ≤ B2) : zInv B2 z c := by
  obtain ⟨h1, h2, h3, fr, ch, le, cl, su, h4, h5, h6, h7⟩ := h
  exact ⟨h1, h2, h3, fr, ch, le, cl, su, h4, h5, h6, Nat.le_trans h7 hB⟩
theorem zJ_p {j : Nat} (hj : j ≤ 120) : zp (nI (100 * j)) := ⟨nI_pos' (by omega), (nI_leI (b := 12000) (by omega) (by decide)).mpr (by omega)⟩
theorem zNext_h {c : C5} (hc : okC c) {r p : Int32} (hp : zp p) (h : r = -1 ∨ ∃ j, j ≤ 120 ∧ r = nI (100 * j) ∧ zH c j) : ∃ j, j ≤ 120 ∧ zNext c r p = nI (100 * j) ∧ zH c j := by
  by_cases q : ¬ r = -1 ∧ zAbs (p - r) ≤ c.2.2.2.1
  · rw [← zNext_k q]
    rcases h with h | h
    · exact absurd h q.1
    · exact h
  · rw [← zNext_n q]
    obtain ⟨a, ha, rfl⟩ := nI_of2 (n := 12000) (M := 12000) rfl (Int32.not_lt.mpr hp.1) hp.2
    obtain ⟨j, h1, h2, h3, -⟩ := zNear_s hc ha
    exact ⟨j, h1, h2, h3⟩
theorem zR_h {B : Nat} {z : S7} {c : C5} (h : zInv B z c) {i : Nat} (hi : i < 4) {p : Int32} (hp : zp p) : ∃ j, j ≤ 120 ∧ zR c i p z = nI (100 * j) ∧ zH c j := zNext_h h.okC hp (h.2.1 i hi)
theorem zR_p {B : Nat} {z : S7} {c : C5} (h : zInv B z c) {i : Nat} (hi : i < 4) {p : Int32} (hp : zp p) : zp (zR c i p z) := by
  obtain ⟨j, h1, h2, -⟩ := zR_h h hi hp
  rw [h2]
  exact zJ_p h1
theorem zG_r {B : Nat} {z : S7} {c : C5} (h : zInv B z c) {i : Nat} (hi : i < 4) {p : Int32} (hp : zp p) : zR12 (zG c i p z) := by
  have h1 := zR_p h hi hp
  show zR12 (if zLeap c (z.1 i) (zR c i p z) then 0 else zTow c.2.2.1 (z.2.1 i) (zR c i p z - p))
  by_cases q : zLeap c (z.1 i) (zR c i p z)
  · rw [if_pos q]; exact ⟨by decide, by decide⟩
  · rw [if_neg q]; exact zTow_r h.1.2.2.1 h.1.2.2.2 (h.2.2.1 i hi) (zDue_i h1 hp).2
theorem zOut_x {B : Nat} {z : S7} {c : C5} (h : zInv B z c) {i : Nat} (hi : i < 4) {p : Int32} (hp : zp p) : ¬ zOut c i p z = -99999 := by
  have h1 := zG_r h hi hp
  have h2 := zp_i hp
  have e : (p + zG c i p z).toInt = p.toInt + (zG c i p z).toInt := fb_addI (by omega) (by omega)
  intro q
  have q1 : (p + zG c i p z).toInt = (-99999 : Int32).toInt := congrArg Int32.toInt q
  have q2 : (-99999 : Int32).toInt = -99999 := by decide
  omega
theorem zB_i {b : Prop} [Decidable b] {f : Nat → Int32} {i n : Nat} (h : f i = nI n) : zB b f i i = nI (n + if b then 1 else 0) := by
  unfold zB
  by_cases q : b
  · rw [if_pos q, if_pos q, pk_us, h, nI_1]
  · rw [if_neg q, if_neg q, h, Nat.add_zero]
theorem zB_o {b : Prop} [Decidable b] {f : Nat → Int32} {i k : Nat} (h : k ≠ i) : zB b f i k = f k := by
  unfold zB
  by_cases q : b
  · rw [if_pos q, pk_un h]
  · rw [if_neg q]
def zUp (f : Nat → Nat) (i d : Nat) : Nat → Nat := fun j => if j = i then f i + d else f j
theorem zUp_i (f : Nat → Nat) (i d : Nat) : zUp f i d i = f i + d := if_pos rfl
theorem zUp_o (f : Nat → Nat) (i d : Nat) {j : Nat} (h : j ≠ i) : zUp f i d j = f j := if_neg h
theorem zInv.sg {B : Nat} {z : S7} {c : C5} (h : zInv B z c) {i : Nat} (hi : i < 4) {p : Int32} (hp : zp p) : zInv (B + 1) (zSg c i p z) c := by
  have hJ := zR_h h hi hp
  have hG := zG_r h hi hp
  obtain ⟨h1, h2, h3, fr, ch, le, cl, su, h4, h5, h6, h7⟩ := h
  refine ⟨h1, fun k hk => ?_, fun k hk => ?_, zUp fr i 1, zUp ch i (if zChg (z.1 i) (zR c i p z) then 1 else 0), zUp le i (if zLeap c (z.1 i) (zR c i p z) then 1 else 0), zUp cl i (if ¬ zStep c (zOut c i p z) = -1 then 1 else 0), zUp su (zSem p) 1, fun k hk => ?_, fun k hk => ?_, ?_, ?_⟩
  · by_cases q : k = i
    · subst q
      rw [zSg_1]; exact Or.inr hJ
    · have e : (zSg c i p z).1 k = z.1 k := pk_un q
      rw [e]; exact h2 k hk
  · by_cases q : k = i
    · subst q
      rw [zSg_2]; exact hG
    · have e : (zSg c i p z).2.1 k = z.2.1 k := pk_un q
      rw [e]; exact h3 k hk
  · obtain ⟨a1, a2, a3, a4, a5, a6, a7⟩ := h4 k hk
    by_cases q : k = i
    · subst q
      rw [zUp_i, zUp_i, zUp_i, zUp_i]
      refine ⟨?_, zB_i a2, zB_i a3, zB_i a4, ?_, ?_, ?_⟩
      · show upd z.2.2.1 k (z.2.2.1 k + 1) k = _
        rw [pk_us, a1, nI_1]
      · by_cases q1 : zLeap c (z.1 k) (zR c k p z)
        · rw [if_pos q1, if_pos q1.1]; omega
        · rw [if_neg q1]; omega
      · split <;> omega
      · split <;> omega
    · rw [zUp_o _ _ _ q, zUp_o _ _ _ q, zUp_o _ _ _ q, zUp_o _ _ _ q]
      have e : (zSg c i p z).2.2.1 k = z.2.2.1 k := pk_un q
      exact ⟨e.trans a1, (zB_o q).trans a2, (zB_o q).trans a3, (zB_o q).trans a4, a5, a6, a7⟩
  · show upd z.2.2.2.2.2.2 (zSem p) (z.2.2.2.2.2.2 (zSem p) + 1) k = _
    by_cases q : k = zSem p
    · subst q
      rw [pk_us, zUp_i, h5 _ hk, nI_1]
    · rw [pk_un q, zUp_o _ _ _ q]; exact h5 k hk
  · rw [zSu_inc (f := fr) (zUp_i fr i 1) (fun j hj => zUp_o fr i 1 hj) 4 hi, zSu_inc (f := su) (zUp_i su (zSem p) 1) (fun j hj => zUp_o su (zSem p) 1 hj) 12 (zSem_lt p), h6]
  · rw [zSu_inc (f := su) (zUp_i su (zSem p) 1) (fun j hj => zUp_o su (zSem p) 1 hj) 12 (zSem_lt p)]
    omega
theorem zInv.sl {B : Nat} {z : S7} {c : C5} (h : zInv B z c) {i : Nat} (hi : i < 4) {a b : Int32} {f : Nat} (ha : zp a) (hb : zp b) (hf : 2 ≤ f) (hf2 : f ≤ 50) : ∀ k, k ≤ f → zInv (B + k) (zSl c i a b f z k) c := by
  intro k
  induction k with
  | zero => exact fun _ => h
  | succ k ih => exact fun hk => (ih (by omega)).sg hi (zPit_ok ha hb hf hf2 (by omega))
theorem zInv.ng {B : Nat} {z : S7} {c : C5} (h : zInv B z c) {i : Nat} (hi : i < 4) {p : Int32} (hp : zp p) : ∀ k, zInv (B + k) (zNg c i p z k) c := by
  intro k
  induction k with
  | zero => exact h
  | succ k ih => exact ih.sg hi hp
theorem zInv.rest {B : Nat} {z : S7} {c : C5} (h : zInv B z c) (i : Nat) : zInv B ((upd z.1 i (-1)), (upd z.2.1 i 0), z.2.2.1, z.2.2.2.1, z.2.2.2.2.1, z.2.2.2.2.2.1, z.2.2.2.2.2.2) c := by
  obtain ⟨h1, h2, h3, h4⟩ := h
  refine ⟨h1, fun k hk => ?_, fun k hk => ?_, h4⟩
  · show upd z.1 i (-1) k = -1 ∨ ∃ j, j ≤ 120 ∧ upd z.1 i (-1) k = nI (100 * j) ∧ zH c j
    by_cases q : k = i
    · subst q; exact Or.inl pk_us
    · rw [pk_un q]; exact h2 k hk
  · show zR12 (upd z.2.1 i 0 k)
    by_cases q : k = i
    · subst q; rw [pk_us]; exact ⟨by decide, by decide⟩
    · rw [pk_un q]; exact h3 k hk
theorem zInv.nudge {B : Nat} {z : S7} {c : C5} (h : zInv B z c) {sp le gl : Int32} (hs : 0 ≤ sp ∧ sp ≤ 100) : zInv B z (c.1, c.2.1, sp, le, gl) := by
  obtain ⟨h1, h2, h3, h4⟩ := h
  exact ⟨⟨h1.1, h1.2.1, hs.1, hs.2⟩, h2, h3, h4⟩
theorem zLn_c (c : C5) (r : Nat → Int32) : ∀ k, (∀ i, i < k → (zLn c r k).1 i = -1 ∨ ((zLn c r k).1 i = r i ∧ ¬ zStep c (r i) = -1)) ∧ (∀ i, k ≤ i → (zLn c r k).1 i = r i) ∧ ∃ m, m ≤ k ∧ (zLn c r k).2 = nI m := by
  intro k
  induction k with
  | zero => exact ⟨fun i h => absurd h (Nat.not_lt_zero _), fun i _ => rfl, 0, Nat.le_refl _, nI_0.symm⟩
  | succ k ih =>
    obtain ⟨h1, h2, m, h3, h4⟩ := ih
    have hk := h2 k (Nat.le_refl _)
    by_cases q : ¬ (zLn c r k).1 k = -1 ∧ zStep c ((zLn c r k).1 k) = -1
    · rw [zLn_1 q.1 q.2]
      refine ⟨fun i hi => ?_, fun i hi => ?_, m + 1, by omega, ?_⟩
      · show upd (zLn c r k).1 k (-1) i = -1 ∨ (upd (zLn c r k).1 k (-1) i = r i ∧ ¬ zStep c (r i) = -1)
        by_cases e : i = k
        · subst e; exact Or.inl pk_us
        · rw [pk_un e]; exact h1 i (by omega)
      · show upd (zLn c r k).1 k (-1) i = r i
        rw [pk_un (by omega)]; exact h2 i (by omega)
      · show (zLn c r k).2 + 1 = nI (m + 1)
        rw [h4, nI_1]
    · rw [zLn_0 q]
      refine ⟨fun i hi => ?_, fun i hi => h2 i (by omega), m, by omega, h4⟩
      by_cases e : i = k
      · subst e
        by_cases e2 : (zLn c r i).1 i = -1
        · exact Or.inl e2
        · exact Or.inr ⟨hk, fun e3 => q ⟨e2, by rw [hk]; exact e3⟩⟩
      · exact h1 i (by omega)
theorem zInv.scale {B : Nat} {z : S7} {c : C5} (h : zInv B z c) {k2 m2 : Nat} (hk : k2 < 12) (hm : m2 < 8) : zInv B ((zL (k2, m2, c.2.2.1, c.2.2.2.1, c.2.2.2.2) z.1).1, z.2.1, z.2.2.1, z.2.2.2.1, z.2.2.2.2.1, z.2.2.2.2.2.1, z.2.2.2.2.2.2) (k2, m2, c.2.2.1, c.2.2.2.1, c.2.2.2.2) := by
  obtain ⟨h1, h2, h3, h4⟩ := h
  refine ⟨⟨hk, hm, h1.2.2⟩, fun i hi => ?_, h3, h4⟩
  show (zLn (k2, m2, c.2.2.1, c.2.2.2.1, c.2.2.2.2) z.1 4).1 i = -1 ∨ ∃ j, j ≤ 120 ∧ (zLn (k2, m2, c.2.2.1, c.2.2.2.1, c.2.2.2.2) z.1 4).1 i = nI (100 * j) ∧ zH (k2, m2, c.2.2.1, c.2.2.2.1, c.2.2.2.2) j
  rcases (zLn_c (k2, m2, c.2.2.1, c.2.2.2.1, c.2.2.2.2) z.1 4).1 i hi with q | ⟨q, q2⟩
  · exact Or.inl q
  · rw [q]
    rcases h2 i hi with e | ⟨j, e1, e2, e3⟩
    · exact Or.inl e
    · refine Or.inr ⟨j, e1, e2, ?_⟩
      rw [e2] at q2
      exact q2
theorem zI_inv : zInv 0 zI cI := by
  refine ⟨⟨by decide, by decide, by decide, by decide⟩, fun i hi => Or.inl ?_, fun i hi => ⟨(by decide : -12000 ≤ (0 : Int32).toInt), (by decide : (0 : Int32).toInt ≤ 12000)⟩, fun _ => 0, fun _ => 0, fun _ => 0, fun _ => 0, fun _ => 0, fun i hi => ⟨nI_0.symm, nI_0.symm, nI_0.symm, nI_0.symm, Nat.le_refl _, Nat.le_refl _, Nat.le_refl _⟩, fun k hk => nI_0.symm, rfl, Nat.le_refl _⟩
  rcases (show i = 0 ∨ i = 1 ∨ i = 2 ∨ i = 3 by omega) with rfl | rfl | rfl | rfl <;> decide +kernel
theorem zSmall {m : Nat} (h : m < 2 ^ 31) : ¬ nI m = -99999 := by
  intro q
  have q1 : (nI m).toInt = (-99999 : Int32).toInt := congrArg Int32.toInt q
  have q2 : (-99999 : Int32).toInt = -99999 := by decide
  rw [nI_toInt h] at q1
  omega
theorem zRung_x {B : Nat} {z : S7} {c : C5} (h : zInv B z c) {i : Nat} (hi : i < 4) : ¬ z.1 i = -99999 := by
  rcases h.2.1 i hi with q | ⟨j, q1, q2, -⟩
  · rw [q]; decide
  · rw [q2]; exact zSmall (by omega)
theorem zLost_x (c : C5) (r : Nat → Int32) : ¬ (zL c r).2 = -99999 := by
  obtain ⟨-, -, m, h1, h2⟩ := zLn_c c r 4
  show ¬ (zLn c r 4).2 = -99999
  rw [h2]
  exact zSmall (by omega)
theorem zChg_n {B : Nat} {z : S7} {c : C5} (h : zInv B z c) {i : Nat} (hi : i < 4) : ∃ m, m ≤ B ∧ z.2.2.2.1 i = nI m := by
  obtain ⟨-, -, -, fr, ch, le, cl, su, h4, h5, h6, h7⟩ := h
  obtain ⟨a1, a2, a3, a4, a5, a6, a7⟩ := h4 i hi
  have := zSu_mem (f := fr) 4 i hi
  exact ⟨ch i, by omega, a2⟩
theorem zSlide_x {B : Nat} {z z2 : S7} {c : C5} (h : zInv B z c) (h2 : zInv (B + 50) z2 c) (hB : B ≤ 9000) {i : Nat} (hi : i < 4) : ¬ z2.2.2.2.1 i - z.2.2.2.1 i = -99999 := by
  obtain ⟨m, h3, h4⟩ := zChg_n h hi
  obtain ⟨n, h5, h6⟩ := zChg_n h2 hi
  rw [h4, h6]
  intro q
  have q1 : (nI n - nI m).toInt = (-99999 : Int32).toInt := congrArg Int32.toInt q
  have q2 : (-99999 : Int32).toInt = -99999 := by decide
  rw [pk_sub_toInt (by omega) (by omega)] at q1
  omega
end
section
/-! the law's own numbers: low, cell -/
def zLo (v n : Int32) : Int32 := (v &&& 2147483647) - (v &&& 2147483647) / n * n
theorem zLo_lt (v : Int32) {N : Nat} (h0 : 0 < N) (hN : N < 2 ^ 31) : ∃ k, k < N ∧ zLo v (nI N) = nI k := by
  obtain ⟨j, hj, ej⟩ := pk_andE v (m := 2147483647) 31 (by decide +kernel)
  refine ⟨j % N, Nat.mod_lt _ h0, ?_⟩
  unfold zLo
  rw [ej]
  exact pk_rem (by omega) h0 hN
def zCp (b L : Nat) (xs : Nat → Int32) (U : State) : Prop := va_X b L xs U U.heap ∧ b < U.heap.size
theorem zCp.blind {b L : Nat} {xs : Nat → Int32} {av : List Value} : FrameBlind (va_Pc av (zCp b L xs)) := by
  intro a U g mk h
  exact ⟨h.1, va_X.moved (u := U) (U := U.calling g mk a) (Vm.Alike.refl U.vm) h.2.1, h.2.2⟩
set_option maxHeartbeats 4000000 in
set_option maxRecDepth 100000 in
theorem c_L_low (l : Launch) (v : Int32) (n : Int32) (hn : ¬ n = 0) : Met l yL_low wsL_low ({ frames := 0, cells := 0, slots := 0, locals := 0 }) (va_Pc [.int v, .int n] (fun _ => True)) (vp_Si (fun rv => rv = zLo v n)) 0 0 (fun _ => False) := by
  refine Met.ofW (cc := cL_low) (maxL := 2) (ret := (some .int)) (by decide) rfl ?_
  intro pr e s m ag below meth cd s₁ B hml hv
  obtain ⟨rfl, -⟩ := hv
  have hx := B.exec
  have hb := B.bytes
  have hr := B.returns
  have hts := atoms_spec (ws := wsL_low) B.pre
  have hown : s.vm.findClass RL = some m.cls := findClass_of_methodNamed B.named
  have hlocks := B.notSynchronized
  have hl := lv_entry ([.int v, .int n]) (n := 2) (Nat.le_of_ble_eq_true rfl)
  rw [lg_entry_eq]
  generalize (lg_sl ([.int v, .int n]) ++ List.replicate (2 - (lg_sl ([.int v, .int n])).length) Slot.unset).toArray = ls at hl ⊢
  have hl : lv_has ls 2 [(0, .int v), (1, .int n)] := hl
  refine lv_iload_n hx hb dL_low_0 rfl (lv_at hl 0 rfl) ?_
  refine lv_ldc (v := 2147483647) hx hb hown (hts (.constant RL 7 2147483647) (by decide +kernel)) dL_low_1 ?_
  refine lv_iand hx hb dL_low_3 ?_
  refine lv_iload_n hx hb dL_low_4 rfl (lv_at hl 1 rfl) ?_
  refine lv_irem hx hb dL_low_5 hn ?_
  exact W.iret (v := ((v &&& 2147483647) - (v &&& 2147483647) / n * n)) hx hb hr (fun t ht hW => ⟨_, rfl, rfl, ht⟩) (fun _ h9 => nomatch h9) dL_low_6

set_option maxHeartbeats 4000000 in
set_option maxRecDepth 100000 in
theorem c_L_cell (l : Launch) (b L : Nat) (xs : Nat → Int32) (k : Nat) (hk : k < 1000) (hL : L < 1000) : Met l yL_cell wsL_cell ({ frames := 0, cells := 0, slots := 0, locals := 0 }) (va_Pc [.ref b, .int (nI k)] (zCp b L xs)) (vp_Si (fun _ => True)) 0 0 (fun _ => False) := by
  refine Met.ofW (cc := cL_cell) (maxL := 2) (ret := (some .int)) (by decide) rfl ?_
  intro pr e s m ag below meth cd s₁ B hml hv
  obtain ⟨rfl, hX, hbl⟩ := hv
  have hx := B.exec
  have hb := B.bytes
  have hr := B.returns
  have hS : va_S (fun _ => False) s.heap s.heap [] := va_S.rf
  have hbA : ¬ (fun _ : Nat => False) b := fun q => q
  have hl := lv_entry ([.ref b, .int (nI k)]) (n := 2) (Nat.le_of_ble_eq_true rfl)
  rw [lg_entry_eq]
  generalize (lg_sl ([.ref b, .int (nI k)]) ++ List.replicate (2 - (lg_sl ([.ref b, .int (nI k)])).length) Slot.unset).toArray = ls at hl ⊢
  have hl : lv_has ls 2 [(0, .ref b), (1, .int (nI k))] := hl
  refine lv_iload_n hx hb dL_cell_0 rfl (lv_at hl 1 rfl) ?_
  refine lv_aload_n hx hb dL_cell_1 rfl (lv_at hl 0 rfl) ?_
  refine va_slen hx hb hX hbl hbA hS dL_cell_2 ?_
  refine lv_icmp_ge (tgt := 12) hx hb dL_cell_3 (by decide) (fun c_3 => ?_) (fun c_3 => ?_)
  · refine lv_sipush (v := 7919) hx hb dL_cell_12 (by decide) ?_
    refine lv_iload_n hx hb dL_cell_15 rfl (lv_at hl 1 rfl) ?_
    refine lv_bipush (v := 7) hx hb dL_cell_16 (by decide) ?_
    refine lv_iadd hx hb dL_cell_18 ?_
    refine lv_imul hx hb dL_cell_19 ?_
    refine lv_iload_n hx hb dL_cell_20 rfl (lv_at hl 1 rfl) ?_
    refine lv_sipush (v := 2089) hx hb dL_cell_21 (by decide) ?_
    refine lv_iadd hx hb dL_cell_24 ?_
    refine lv_imul hx hb dL_cell_25 ?_
    exact W.iret (v := (7919 * (nI k + 7) * (nI k + 2089))) hx hb hr (fun t ht hW => ⟨_, rfl, trivial, ht⟩) (fun _ h9 => nomatch h9) dL_cell_26
  · have hk2 : k < L := Nat.not_le.mp fun q => c_3 ((nI_leI (by omega) (by omega)).mpr q)
    refine lv_aload_n hx hb dL_cell_6 rfl (lv_at hl 0 rfl) ?_
    refine lv_iload_n hx hb dL_cell_7 rfl (lv_at hl 1 rfl) ?_
    refine va_sld hx hb hX hbl hbA hS (vp_in_nI hk2 (by omega)) dL_cell_8 ?_
    refine lv_goto (tgt := 26) hx hb dL_cell_9 (by decide) ?_
    exact W.iret (v := (xs (nI k).toNatClampNeg)) hx hb hr (fun t ht hW => ⟨_, rfl, trivial, ht⟩) (fun _ h9 => nomatch h9) dL_cell_26
def zTg : Nat → Nat
  | 0 => 108
  | 1 => 149
  | 2 => 220
  | 3 => 226
  | 4 => 226
  | 5 => 282
  | 6 => 282
  | 7 => 282
  | _ => 337
set_option maxHeartbeats 4000000 in
theorem act_sw {p : Program} {l : Launch} {e : Env} {R : Room} {s : State} {m : MethodId} {args : Array Value} {below : List Frame} {meth : Method} {c : Code} {H : Heap} {locs : List Loc} {cells slots : Nat} {Q : State → Prop} {ls : Array Slot} {rest : List Value} (hx : p.tables.exec = Jvm.exec) (hb : c.code = cL_act) {k : Nat} (hk : k < 12) (kk : W p l e R s m args below meth c H locs cells slots Q (F0 m (zTg k) ls rest)) : W p l e R s m args below meth c H locs cells slots Q (F0 m 63 ls (.int (nI k) :: rest)) := by
  rcases (show k = 0 ∨ k = 1 ∨ k = 2 ∨ k = 3 ∨ k = 4 ∨ k = 5 ∨ k = 6 ∨ k = 7 ∨ 8 ≤ k by omega) with rfl | rfl | rfl | rfl | rfl | rfl | rfl | rfl | h8
  · exact lv_tableIn (x := nI 0) (off := 45) (tgt := 108) hx hb dL_act_63 (by decide) (by decide) (by decide) (by decide) kk
  · exact lv_tableIn (x := nI 1) (off := 86) (tgt := 149) hx hb dL_act_63 (by decide) (by decide) (by decide) (by decide) kk
  · exact lv_tableIn (x := nI 2) (off := 157) (tgt := 220) hx hb dL_act_63 (by decide) (by decide) (by decide) (by decide) kk
  · exact lv_tableIn (x := nI 3) (off := 163) (tgt := 226) hx hb dL_act_63 (by decide) (by decide) (by decide) (by decide) kk
  · exact lv_tableIn (x := nI 4) (off := 163) (tgt := 226) hx hb dL_act_63 (by decide) (by decide) (by decide) (by decide) kk
  · exact lv_tableIn (x := nI 5) (off := 219) (tgt := 282) hx hb dL_act_63 (by decide) (by decide) (by decide) (by decide) kk
  · exact lv_tableIn (x := nI 6) (off := 219) (tgt := 282) hx hb dL_act_63 (by decide) (by decide) (by decide) (by decide) kk
  · exact lv_tableIn (x := nI 7) (off := 219) (tgt := 282) hx hb dL_act_63 (by decide) (by decide) (by decide) (by decide) kk
  · have e8 : zTg k = 337 := by
      rcases (show k = 8 ∨ k = 9 ∨ k = 10 ∨ k = 11 by omega) with rfl | rfl | rfl | rfl <;> rfl
    rw [e8] at kk
    exact lv_tableOut (tgt := 337) hx hb dL_act_63 (Or.inr (by rw [nI_toInt (by omega)]; omega)) (by decide) kk
end
section
theorem x_X0_setScale_I (l : Launch) (hst : l.stackTraces = false) (N0 : Nat) (Hx : Heap) (h : Nat) (key : Int32) (md : Int32) (hn : ¬ ((0 ≤ key ∧ key ≤ 11) ∧ (0 ≤ md ∧ md ≤ 7))) : vx_Met l yX0_setScale wsX0_setScale ({ frames := 8, cells := 1, slots := 6, locals := 124 }) (va_Pc [.ref h, .int key, .int md] (fun U => U.heap = Hx ∧ zPe N0 U)) (va_Qi (fun (_ : Int32) (_ : Unit) => False) (fun _ _ => True) (zA N0)) (vx_X (fun (_ : Unit) => True) (fun E _ t => E = xI ∧ Hx.size ≤ t.heap.size ∧ ∀ q : Nat, q < Hx.size → t.heap[q]? = Hx[q]?) (zA N0)) 1 6 (zA N0) := by
  by_cases h1 : (0 ≤ key ∧ key ≤ 11)
  · skip
    exact x_X0_setScale_2 l hst N0 Hx h key md h1 (fun q => hn ⟨h1, q⟩)
  · exact x_X0_setScale_1 l hst N0 Hx h key md  h1

theorem x_X0_within_I (l : Launch) (hst : l.stackTraces = false) (N0 : Nat) (Hx : Heap) (h : Nat) (key : Int32) (md : Int32) (hn : ¬ ((0 ≤ key ∧ key ≤ 11) ∧ (0 ≤ md ∧ md ≤ 7))) : vx_Met l yX0_within wsX0_within ({ frames := 8, cells := 1, slots := 6, locals := 124 }) (va_Pc [.ref h, .int key, .int md] (fun U => U.heap = Hx ∧ zPe N0 U)) (va_Qi (fun (_ : Int32) (_ : Unit) => False) (fun _ _ => True) (zA N0)) (vx_X (fun (_ : Unit) => True) (fun E _ t => E = xI ∧ Hx.size ≤ t.heap.size ∧ ∀ q : Nat, q < Hx.size → t.heap[q]? = Hx[q]?) (zA N0)) 1 6 (zA N0) := by
  by_cases h1 : (0 ≤ key ∧ key ≤ 11)
  · skip
    exact x_X0_within_2 l hst N0 Hx h key md h1 (fun q => hn ⟨h1, q⟩)
  · exact x_X0_within_1 l hst N0 Hx h key md  h1

theorem x_X0_setNudging_I (l : Launch) (hst : l.stackTraces = false) (N0 : Nat) (Hx : Heap) (h : Nat) (sp : Int32) (le : Int32) (gl : Int32) (hn : ¬ ((0 ≤ sp ∧ sp ≤ 100) ∧ (0 ≤ le ∧ le ≤ 600) ∧ (0 ≤ gl ∧ gl ≤ 12000))) : vx_Met l yX0_setNudging wsX0_setNudging ({ frames := 8, cells := 1, slots := 6, locals := 124 }) (va_Pc [.ref h, .int sp, .int le, .int gl] (fun U => U.heap = Hx ∧ zPe N0 U)) (va_Qv (fun (_ : Unit) => False) (fun _ _ => True) (zA N0)) (vx_X (fun (_ : Unit) => True) (fun E _ t => E = xI ∧ Hx.size ≤ t.heap.size ∧ ∀ q : Nat, q < Hx.size → t.heap[q]? = Hx[q]?) (zA N0)) 1 6 (zA N0) := by
  by_cases h1 : 0 ≤ sp ∧ sp ≤ 100
  · skip
    by_cases h2 : 0 ≤ le ∧ le ≤ 600
    · skip
      exact x_X0_setNudging_3 l hst N0 Hx h sp le gl h1 h2 (fun q => hn ⟨h1, h2, q⟩)
    · exact x_X0_setNudging_2 l hst N0 Hx h sp le gl h1 h2
  · exact x_X0_setNudging_1 l hst N0 Hx h sp le gl  h1

theorem x_X0_slide_I (l : Launch) (hst : l.stackTraces = false) (N0 : Nat) (Hx : Heap) (h : Nat) (w : Int32) (a : Int32) (b : Int32) (f : Int32) (hw : zw w) (hn : ¬ (zp a ∧ zp b ∧ (2 ≤ f ∧ f ≤ 50))) : vx_Met l yX0_slide wsX0_slide ({ frames := 8, cells := 1, slots := 6, locals := 124 }) (va_Pc [.ref h, .int w, .int a, .int b, .int f] (fun U => U.heap = Hx ∧ zPe N0 U)) (va_Qi (fun (_ : Int32) (_ : Unit) => False) (fun _ _ => True) (zA N0)) (vx_X (fun (_ : Unit) => True) (fun E _ t => E = xI ∧ Hx.size ≤ t.heap.size ∧ ∀ q : Nat, q < Hx.size → t.heap[q]? = Hx[q]?) (zA N0)) 1 6 (zA N0) := by
  by_cases h2 : zp a
  · skip
    by_cases h3 : zp b
    · skip
      exact x_X0_slide_4 l hst N0 Hx h w a b f hw h2 h3 (fun q => hn ⟨h2, h3, q⟩)
    · exact x_X0_slide_3 l hst N0 Hx h w a b f hw h2 h3
  · exact x_X0_slide_2 l hst N0 Hx h w a b f hw h2

set_option maxHeartbeats 4000000 in
set_option maxRecDepth 100000 in
theorem c_L_scale_v (l : Launch) (D : va_G) (N0 : Nat) (cA cL : ClassId) (E : va_W) (h : Nat) (d : Nat → Nat) (z : S7) (c : C5) (k2 m2 : Nat) (hc : okC c) (hk2 : k2 < 12) (hm2 : m2 < 8) : Met l yL_scale wsL_scale ({ frames := 5, cells := 0, slots := 0, locals := 113 }) (va_Pc [.ref h, .int (nI k2), .int (nI m2)] (zPre D N0 cA cL (wX h d cA z c ++ E))) (va_Qi (fun (rv : Int32) (_ : Unit) => rv = (zL (k2, m2, c.2.2.1, c.2.2.2.1, c.2.2.2.2) z.1).2) (fun _ t => zPost D N0 (wX h d cA ((zL (k2, m2, c.2.2.1, c.2.2.2.1, c.2.2.2.2) z.1).1, z.2.1, z.2.2.1, z.2.2.2.1, z.2.2.2.2.1, z.2.2.2.2.2.1, z.2.2.2.2.2.2) (k2, m2, c.2.2.1, c.2.2.2.1, c.2.2.2.2) ++ E) t) (zA N0)) 0 0 (zA N0) := by
  refine va_MetW (cc := cL_scale) (maxL := 4) (ret := (some .int)) (by decide) rfl ?_
  intro pr e s m ag below meth cd s₁ B hml hv
  obtain ⟨rfl, hN, hP, hD, hK, hE⟩ := hv
  have hx := B.exec
  have hb := B.bytes
  have hr := B.returns
  have hts := atoms_spec (ws := wsL_scale) B.pre
  have hown : s.vm.findClass RL = some m.cls := findClass_of_methodNamed B.named
  have hlocks := B.notSynchronized
  have hS : va_S (zA N0) s.heap s.heap [] := va_S.rf
  have hl := lv_entry ([.ref h, .int (nI k2), .int (nI m2)]) (n := 4) (Nat.le_of_ble_eq_true rfl)
  rw [lg_entry_eq]
  generalize (lg_sl ([.ref h, .int (nI k2), .int (nI m2)]) ++ List.replicate (4 - (lg_sl ([.ref h, .int (nI k2), .int (nI m2)])).length) Slot.unset).toArray = ls at hl ⊢
  have hl : lv_has ls 4 [(0, .ref h), (1, .int (nI k2)), (2, .int (nI m2))] := hl
  refine lv_aload_n hx hb dL_scale_0 rfl (lv_at hl 0 rfl) ?_
  refine lv_iload_n hx hb dL_scale_1 rfl (lv_at hl 1 rfl) ?_
  refine lv_iload_n hx hb dL_scale_2 rfl (lv_at hl 2 rfl) ?_
  refine va_calli (va_runV (As := [.int (nI k2), .int (nI m2)]) (rest := []) ⟨hx, hb, hml, hown, hts⟩ (c_X0_setScale_v l D N0 cA cL E h d z c k2 m2 hc hk2 hm2) (cwV 2 hts gL_scale_X0_setScale rfl rfl rfl (by decide +kernel) ⟨Nat.le_of_ble_eq_true rfl, Nat.le_of_ble_eq_true rfl⟩) ⟨zPre.blind, va_recv hK hP (ci := 0) (q0 := 0) rfl rfl, zPre.call hN hP hD hK hE hS⟩ rfl rfl hl.1 rfl (lv_room (Nat.le_of_ble_eq_true rfl)) dL_scale_3 ⟨Nat.zero_le _, Nat.zero_le _⟩) hS (fun _ _ h9 => h9) (fun _ h9 => h9) (fun r_3 _ t H locs ht hvm h_3 hB hz1 hk1 hS => ?_)
  have h_3 : r_3 = ((zL (k2, m2, c.2.2.1, c.2.2.2.1, c.2.2.2.2) z.1).2) := h_3
  subst h_3
  obtain ⟨hP, hD⟩ := hB
  rw [ht] at hP
  have hP : va_P D vwCl (wX h d cA ((zL (k2, m2, c.2.2.1, c.2.2.2.1, c.2.2.2.2) z.1).1, z.2.1, z.2.2.1, z.2.2.2.1, z.2.2.2.2.1, z.2.2.2.2.2.1, z.2.2.2.2.2.2) (k2, m2, c.2.2.1, c.2.2.2.1, c.2.2.2.2) ++ E) H := hP
  have hD : va_D (zA N0) (wX h d cA ((zL (k2, m2, c.2.2.1, c.2.2.2.1, c.2.2.2.2) z.1).1, z.2.1, z.2.2.1, z.2.2.2.1, z.2.2.2.2.1, z.2.2.2.2.2.1, z.2.2.2.2.2.2) (k2, m2, c.2.2.1, c.2.2.2.1, c.2.2.2.2) ++ E) := hD
  exact W.iret (v := ((zL (k2, m2, c.2.2.1, c.2.2.2.1, c.2.2.2.2) z.1).2)) hx hb hr (fun t ht hW => ⟨⟨_, (), rfl, rfl, ⟨by rw [ht]; exact hP, hD⟩⟩, hS.F ht⟩) hS.2.2 dL_scale_6

set_option maxHeartbeats 4000000 in
set_option maxRecDepth 100000 in
theorem c_L_scale_1 (l : Launch) (hst : l.stackTraces = false) (D : va_G) (N0 : Nat) (cA cL : ClassId) (E : va_W) (h : Nat) (d : Nat → Nat) (z : S7) (c : C5) (key md : Int32) (hn : ¬ ((0 ≤ key ∧ key ≤ 11) ∧ (0 ≤ md ∧ md ≤ 7))) : Met l yL_scale wsL_scale ({ frames := 9, cells := 1, slots := 6, locals := 148 }) (va_Pc [.ref h, .int key, .int md] (zPre D N0 cA cL (wX h d cA z c ++ E))) (va_Qi (fun (rv : Int32) (_ : Unit) => rv = (-99999)) (fun _ t => zPost D N0 (wX h d cA z c ++ E) t) (zA N0)) 1 6 (zA N0) := by
  refine va_MetW (cc := cL_scale) (maxL := 4) (ret := (some .int)) (by decide) rfl ?_
  intro pr e s m ag below meth cd s₁ B hml hv
  obtain ⟨rfl, hN, hP, hD, hK, hE⟩ := hv
  have hx := B.exec
  have hb := B.bytes
  have hr := B.returns
  have hts := atoms_spec (ws := wsL_scale) B.pre
  have hown : s.vm.findClass RL = some m.cls := findClass_of_methodNamed B.named
  have hlocks := B.notSynchronized
  have htab := vx_table (x := yL_scale) B (hts (.codeWith yL_scale cL_scale 4 (some .int) [(0, 6, 7, 17)]) List.mem_cons_self)
  have hS : va_S (zA N0) s.heap s.heap [] := va_S.rf
  have hl := lv_entry ([.ref h, .int key, .int md]) (n := 4) (Nat.le_of_ble_eq_true rfl)
  rw [lg_entry_eq]
  generalize (lg_sl ([.ref h, .int key, .int md]) ++ List.replicate (4 - (lg_sl ([.ref h, .int key, .int md])).length) Slot.unset).toArray = ls at hl ⊢
  have hl : lv_has ls 4 [(0, .ref h), (1, .int key), (2, .int md)] := hl
  refine lv_aload_n hx hb dL_scale_0 rfl (lv_at hl 0 rfl) ?_
  refine lv_iload_n hx hb dL_scale_1 rfl (lv_at hl 1 rfl) ?_
  refine lv_iload_n hx hb dL_scale_2 rfl (lv_at hl 2 rfl) ?_
  refine vx_calli (vx_runV (As := [.int key, .int md]) (rest := []) ⟨hx, hb, hml, hown, hts⟩ (x_X0_setScale_I l hst N0 s.heap h key md hn) (cwV 2 hts gL_scale_X0_setScale rfl rfl rfl (by decide +kernel) ⟨Nat.le_of_ble_eq_true rfl, Nat.le_of_ble_eq_true rfl⟩) ⟨zPx.blind, va_recv hK hP (ci := 0) (q0 := 0) rfl rfl, zPx.call hN hE hS⟩ rfl rfl hl.1 rfl (lv_room (Nat.le_of_ble_eq_true rfl)) dL_scale_3 ⟨Nat.le_refl _, Nat.le_refl _⟩) hS (fun _ _ h9 => h9) (fun _ h9 => h9) (fun _ _ h9 => h9) (fun Ex ce q9 u t H locs ht hvm hp9 hB hz1 hk1 hS hce hcv hcl => ?_) (fun r u t H locs ht hvm hp9 hB hz1 hk1 hS => hp9.elim)
  obtain ⟨rfl, hB2, hB3⟩ := hB
  have hP : va_P D vwCl (wX h d cA z c ++ E) H := hP.kept (fun k q hq => by rw [← ht]; exact hB3 q.1 ((hP k q hq).lt))
  refine vx_catch (name := xI) hown [] (⟨0, 6, 7, 17⟩ : ExceptionTableEntry) [] (htab.trans rfl) (fun z9 h9 => nomatch h9) (by decide) (by decide) (hts (.classLink RL 17 xI) (by decide +kernel)) (va_Nw.use rfl hE.2.2.2.2.2.2.2.2.2.1) hce hcv hcl ?_
  refine lv_astore_n (lv' := [(3, .ref q9), (0, .ref h), (1, .int key), (2, .int md)]) hx hb dL_scale_7 rfl hl (by decide) rfl (fun ls hl => ?_)
  refine lv_ldc (v := (-99999)) hx hb hown (hts (.constant RL 16 (-99999)) (by decide +kernel)) dL_scale_8 ?_
  exact W.iret (v := (-99999)) hx hb hr (fun t ht hW => ⟨⟨_, (), rfl, rfl, ⟨by rw [ht]; exact hP, hD⟩⟩, hS.F ht⟩) hS.2.2 dL_scale_10

set_option maxHeartbeats 4000000 in
set_option maxRecDepth 100000 in
theorem c_L_nudge_v (l : Launch) (D : va_G) (N0 : Nat) (cA cL : ClassId) (E : va_W) (h : Nat) (d : Nat → Nat) (z : S7) (c : C5) (sp le gl : Int32) (h1 : 0 ≤ sp ∧ sp ≤ 100) (h2 : 0 ≤ le ∧ le ≤ 600) (h3 : 0 ≤ gl ∧ gl ≤ 12000) : Met l yL_nudge wsL_nudge ({ frames := 2, cells := 0, slots := 0, locals := 45 }) (va_Pc [.ref h, .int sp, .int le, .int gl] (zPre D N0 cA cL (wX h d cA z c ++ E))) (va_Qi (fun (rv : Int32) (_ : Unit) => rv = 1) (fun _ t => zPost D N0 (wX h d cA z (c.1, c.2.1, sp, le, gl) ++ E) t) (zA N0)) 0 0 (zA N0) := by
  refine va_MetW (cc := cL_nudge) (maxL := 5) (ret := (some .boolean)) (by decide) rfl ?_
  intro pr e s m ag below meth cd s₁ B hml hv
  obtain ⟨rfl, hN, hP, hD, hK, hE⟩ := hv
  have hx := B.exec
  have hb := B.bytes
  have hr := B.returns
  have hts := atoms_spec (ws := wsL_nudge) B.pre
  have hown : s.vm.findClass RL = some m.cls := findClass_of_methodNamed B.named
  have hlocks := B.notSynchronized
  have hS : va_S (zA N0) s.heap s.heap [] := va_S.rf
  have hl := lv_entry ([.ref h, .int sp, .int le, .int gl]) (n := 5) (Nat.le_of_ble_eq_true rfl)
  rw [lg_entry_eq]
  generalize (lg_sl ([.ref h, .int sp, .int le, .int gl]) ++ List.replicate (5 - (lg_sl ([.ref h, .int sp, .int le, .int gl])).length) Slot.unset).toArray = ls at hl ⊢
  have hl : lv_has ls 5 [(0, .ref h), (1, .int sp), (2, .int le), (3, .int gl)] := hl
  refine lv_aload_n hx hb dL_nudge_0 rfl (lv_at hl 0 rfl) ?_
  refine lv_iload_n hx hb dL_nudge_1 rfl (lv_at hl 1 rfl) ?_
  refine lv_iload_n hx hb dL_nudge_2 rfl (lv_at hl 2 rfl) ?_
  refine lv_iload_n hx hb dL_nudge_3 rfl (lv_at hl 3 rfl) ?_
  refine va_callv (va_runV (As := [.int sp, .int le, .int gl]) (rest := []) ⟨hx, hb, hml, hown, hts⟩ (c_X0_setNudging_v l D N0 cA cL E h d z c sp le gl h1 h2 h3) (cwV 3 hts gL_nudge_X0_setNudging rfl rfl rfl (by decide +kernel) ⟨Nat.le_of_ble_eq_true rfl, Nat.le_of_ble_eq_true rfl⟩) ⟨zPre.blind, va_recv hK hP (ci := 0) (q0 := 0) rfl rfl, zPre.call hN hP hD hK hE hS⟩ rfl rfl hl.1 rfl (lv_room (Nat.le_of_ble_eq_true rfl)) dL_nudge_4 ⟨Nat.zero_le _, Nat.zero_le _⟩) hS (fun _ _ h9 => h9) (fun _ h9 => h9) (fun _ t H locs ht hvm h_4 hB hz1 hk1 hS => ?_)
  obtain ⟨hP, hD⟩ := hB
  rw [ht] at hP
  have hP : va_P D vwCl (wX h d cA z (c.1, c.2.1, sp, le, gl) ++ E) H := hP
  have hD : va_D (zA N0) (wX h d cA z (c.1, c.2.1, sp, le, gl) ++ E) := hD
  refine lv_goto (tgt := 14) hx hb dL_nudge_7 (by decide) ?_
  refine lv_iconst (v := 1) hx hb dL_nudge_14 (by decide) ?_
  exact W.zret (v := 1) hx hb hr rfl (fun t ht hW => ⟨⟨_, (), rfl, rfl, ⟨by rw [ht]; exact hP, hD⟩⟩, hS.F ht⟩) hS.2.2 dL_nudge_15

set_option maxHeartbeats 4000000 in
set_option maxRecDepth 100000 in
theorem c_L_nudge_1 (l : Launch) (hst : l.stackTraces = false) (D : va_G) (N0 : Nat) (cA cL : ClassId) (E : va_W) (h : Nat) (d : Nat → Nat) (z : S7) (c : C5) (sp le gl : Int32) (hn : ¬ ((0 ≤ sp ∧ sp ≤ 100) ∧ (0 ≤ le ∧ le ≤ 600) ∧ (0 ≤ gl ∧ gl ≤ 12000))) : Met l yL_nudge wsL_nudge ({ frames := 9, cells := 1, slots := 6, locals := 147 }) (va_Pc [.ref h, .int sp, .int le, .int gl] (zPre D N0 cA cL (wX h d cA z c ++ E))) (va_Qi (fun (rv : Int32) (_ : Unit) => rv = 0) (fun _ t => zPost D N0 (wX h d cA z c ++ E) t) (zA N0)) 1 6 (zA N0) := by
  refine va_MetW (cc := cL_nudge) (maxL := 5) (ret := (some .boolean)) (by decide) rfl ?_
  intro pr e s m ag below meth cd s₁ B hml hv
  obtain ⟨rfl, hN, hP, hD, hK, hE⟩ := hv
  have hx := B.exec
  have hb := B.bytes
  have hr := B.returns
  have hts := atoms_spec (ws := wsL_nudge) B.pre
  have hown : s.vm.findClass RL = some m.cls := findClass_of_methodNamed B.named
  have hlocks := B.notSynchronized
  have htab := vx_table (x := yL_nudge) B (hts (.codeWith yL_nudge cL_nudge 5 (some .boolean) [(0, 7, 10, 17)]) List.mem_cons_self)
  have hS : va_S (zA N0) s.heap s.heap [] := va_S.rf
  have hl := lv_entry ([.ref h, .int sp, .int le, .int gl]) (n := 5) (Nat.le_of_ble_eq_true rfl)
  rw [lg_entry_eq]
  generalize (lg_sl ([.ref h, .int sp, .int le, .int gl]) ++ List.replicate (5 - (lg_sl ([.ref h, .int sp, .int le, .int gl])).length) Slot.unset).toArray = ls at hl ⊢
  have hl : lv_has ls 5 [(0, .ref h), (1, .int sp), (2, .int le), (3, .int gl)] := hl
  refine lv_aload_n hx hb dL_nudge_0 rfl (lv_at hl 0 rfl) ?_
  refine lv_iload_n hx hb dL_nudge_1 rfl (lv_at hl 1 rfl) ?_
  refine lv_iload_n hx hb dL_nudge_2 rfl (lv_at hl 2 rfl) ?_
  refine lv_iload_n hx hb dL_nudge_3 rfl (lv_at hl 3 rfl) ?_
  refine vx_callv (vx_runV (As := [.int sp, .int le, .int gl]) (rest := []) ⟨hx, hb, hml, hown, hts⟩ (x_X0_setNudging_I l hst N0 s.heap h sp le gl hn) (cwV 3 hts gL_nudge_X0_setNudging rfl rfl rfl (by decide +kernel) ⟨Nat.le_of_ble_eq_true rfl, Nat.le_of_ble_eq_true rfl⟩) ⟨zPx.blind, va_recv hK hP (ci := 0) (q0 := 0) rfl rfl, zPx.call hN hE hS⟩ rfl rfl hl.1 rfl (lv_room (Nat.le_of_ble_eq_true rfl)) dL_nudge_4 ⟨Nat.le_refl _, Nat.le_refl _⟩) hS (fun _ _ h9 => h9) (fun _ h9 => h9) (fun _ _ h9 => h9) (fun Ex ce q9 u t H locs ht hvm hp9 hB hz1 hk1 hS hce hcv hcl => ?_) (fun u t H locs ht hvm hp9 hB hz1 hk1 hS => hp9.elim)
  obtain ⟨rfl, hB2, hB3⟩ := hB
  have hP : va_P D vwCl (wX h d cA z c ++ E) H := hP.kept (fun k q hq => by rw [← ht]; exact hB3 q.1 ((hP k q hq).lt))
  refine vx_catch (name := xI) hown [] (⟨0, 7, 10, 17⟩ : ExceptionTableEntry) [] (htab.trans rfl) (fun z9 h9 => nomatch h9) (by decide) (by decide) (hts (.classLink RL 17 xI) (by decide +kernel)) (va_Nw.use rfl hE.2.2.2.2.2.2.2.2.2.1) hce hcv hcl ?_
  refine lv_astore (lv' := [(4, .ref q9), (0, .ref h), (1, .int sp), (2, .int le), (3, .int gl)]) hx hb dL_nudge_10 hl (by decide) rfl (fun ls hl => ?_)
  refine lv_iconst (v := 0) hx hb dL_nudge_12 (by decide) ?_
  exact W.zret (v := 0) hx hb hr rfl (fun t ht hW => ⟨⟨_, (), rfl, rfl, ⟨by rw [ht]; exact hP, hD⟩⟩, hS.F ht⟩) hS.2.2 dL_nudge_13

set_option maxHeartbeats 4000000 in
set_option maxRecDepth 100000 in
theorem c_L_sing_v (l : Launch) (D : va_G) (N0 : Nat) (cA cL : ClassId) (E : va_W) (h : Nat) (d : Nat → Nat) (z : S7) (c : C5) (w p : Int32) (hc : okC c) (hw : zw w) (hp : zp p) : Met l yL_sing wsL_sing ({ frames := 8, cells := 0, slots := 0, locals := 183 }) (va_Pc [.ref h, .int w, .int p] (zPre D N0 cA cL (wX h d cA z c ++ E))) (va_Qi (fun (rv : Int32) (_ : Unit) => rv = zOut c w.toNatClampNeg p z) (fun _ t => zPost D N0 (wX h d cA (zSg c w.toNatClampNeg p z) c ++ E) t) (zA N0)) 0 0 (zA N0) := by
  refine va_MetW (cc := cL_sing) (maxL := 4) (ret := (some .int)) (by decide) rfl ?_
  intro pr e s m ag below meth cd s₁ B hml hv
  obtain ⟨rfl, hN, hP, hD, hK, hE⟩ := hv
  have hx := B.exec
  have hb := B.bytes
  have hr := B.returns
  have hts := atoms_spec (ws := wsL_sing) B.pre
  have hown : s.vm.findClass RL = some m.cls := findClass_of_methodNamed B.named
  have hlocks := B.notSynchronized
  have hS : va_S (zA N0) s.heap s.heap [] := va_S.rf
  have hl := lv_entry ([.ref h, .int w, .int p]) (n := 4) (Nat.le_of_ble_eq_true rfl)
  rw [lg_entry_eq]
  generalize (lg_sl ([.ref h, .int w, .int p]) ++ List.replicate (4 - (lg_sl ([.ref h, .int w, .int p])).length) Slot.unset).toArray = ls at hl ⊢
  have hl : lv_has ls 4 [(0, .ref h), (1, .int w), (2, .int p)] := hl
  refine lv_aload_n hx hb dL_sing_0 rfl (lv_at hl 0 rfl) ?_
  refine lv_iload_n hx hb dL_sing_1 rfl (lv_at hl 1 rfl) ?_
  refine lv_iload_n hx hb dL_sing_2 rfl (lv_at hl 2 rfl) ?_
  refine va_calli (va_runV (As := [.int w, .int p]) (rest := []) ⟨hx, hb, hml, hown, hts⟩ (c_X0_sing_v l D N0 cA cL E h d z c w p hc hw hp) (cwV 2 hts gL_sing_X0_sing rfl rfl rfl (by decide +kernel) ⟨Nat.le_of_ble_eq_true rfl, Nat.le_of_ble_eq_true rfl⟩) ⟨zPre.blind, va_recv hK hP (ci := 0) (q0 := 0) rfl rfl, zPre.call hN hP hD hK hE hS⟩ rfl rfl hl.1 rfl (lv_room (Nat.le_of_ble_eq_true rfl)) dL_sing_3 ⟨Nat.zero_le _, Nat.zero_le _⟩) hS (fun _ _ h9 => h9) (fun _ h9 => h9) (fun r_3 _ t H locs ht hvm h_3 hB hz1 hk1 hS => ?_)
  have h_3 : r_3 = (zOut c w.toNatClampNeg p z) := h_3
  subst h_3
  obtain ⟨hP, hD⟩ := hB
  rw [ht] at hP
  have hP : va_P D vwCl (wX h d cA (zSg c w.toNatClampNeg p z) c ++ E) H := hP
  have hD : va_D (zA N0) (wX h d cA (zSg c w.toNatClampNeg p z) c ++ E) := hD
  exact W.iret (v := (zOut c w.toNatClampNeg p z)) hx hb hr (fun t ht hW => ⟨⟨_, (), rfl, rfl, ⟨by rw [ht]; exact hP, hD⟩⟩, hS.F ht⟩) hS.2.2 dL_sing_6

set_option maxHeartbeats 4000000 in
set_option maxRecDepth 100000 in
theorem c_L_sing_1 (l : Launch) (hst : l.stackTraces = false) (D : va_G) (N0 : Nat) (cA cL : ClassId) (E : va_W) (h : Nat) (d : Nat → Nat) (z : S7) (c : C5) (w p : Int32) (hw : ¬ zw w) : Met l yL_sing wsL_sing ({ frames := 9, cells := 1, slots := 6, locals := 146 }) (va_Pc [.ref h, .int w, .int p] (zPre D N0 cA cL (wX h d cA z c ++ E))) (va_Qi (fun (rv : Int32) (_ : Unit) => rv = (-99999)) (fun _ t => zPost D N0 (wX h d cA z c ++ E) t) (zA N0)) 1 6 (zA N0) := by
  refine va_MetW (cc := cL_sing) (maxL := 4) (ret := (some .int)) (by decide) rfl ?_
  intro pr e s m ag below meth cd s₁ B hml hv
  obtain ⟨rfl, hN, hP, hD, hK, hE⟩ := hv
  have hx := B.exec
  have hb := B.bytes
  have hr := B.returns
  have hts := atoms_spec (ws := wsL_sing) B.pre
  have hown : s.vm.findClass RL = some m.cls := findClass_of_methodNamed B.named
  have hlocks := B.notSynchronized
  have htab := vx_table (x := yL_sing) B (hts (.codeWith yL_sing cL_sing 4 (some .int) [(0, 6, 7, 14), (0, 6, 11, 17)]) List.mem_cons_self)
  have hS : va_S (zA N0) s.heap s.heap [] := va_S.rf
  have hl := lv_entry ([.ref h, .int w, .int p]) (n := 4) (Nat.le_of_ble_eq_true rfl)
  rw [lg_entry_eq]
  generalize (lg_sl ([.ref h, .int w, .int p]) ++ List.replicate (4 - (lg_sl ([.ref h, .int w, .int p])).length) Slot.unset).toArray = ls at hl ⊢
  have hl : lv_has ls 4 [(0, .ref h), (1, .int w), (2, .int p)] := hl
  refine lv_aload_n hx hb dL_sing_0 rfl (lv_at hl 0 rfl) ?_
  refine lv_iload_n hx hb dL_sing_1 rfl (lv_at hl 1 rfl) ?_
  refine lv_iload_n hx hb dL_sing_2 rfl (lv_at hl 2 rfl) ?_
  refine vx_calli (vx_runV (As := [.int w, .int p]) (rest := []) ⟨hx, hb, hml, hown, hts⟩ (x_X0_sing_1 l hst N0 s.heap h w p hw) (cwV 2 hts gL_sing_X0_sing rfl rfl rfl (by decide +kernel) ⟨Nat.le_of_ble_eq_true rfl, Nat.le_of_ble_eq_true rfl⟩) ⟨zPx.blind, va_recv hK hP (ci := 0) (q0 := 0) rfl rfl, zPx.call hN hE hS⟩ rfl rfl hl.1 rfl (lv_room (Nat.le_of_ble_eq_true rfl)) dL_sing_3 ⟨Nat.le_refl _, Nat.le_refl _⟩) hS (fun _ _ h9 => h9) (fun _ h9 => h9) (fun _ _ h9 => h9) (fun Ex ce q9 u t H locs ht hvm hp9 hB hz1 hk1 hS hce hcv hcl => ?_) (fun r u t H locs ht hvm hp9 hB hz1 hk1 hS => hp9.elim)
  obtain ⟨rfl, hB2, hB3⟩ := hB
  have hP : va_P D vwCl (wX h d cA z c ++ E) H := hP.kept (fun k q hq => by rw [← ht]; exact hB3 q.1 ((hP k q hq).lt))
  refine vx_catch (name := xO) hown [] (⟨0, 6, 7, 14⟩ : ExceptionTableEntry) [(⟨0, 6, 11, 17⟩ : ExceptionTableEntry)] (htab.trans rfl) (fun z9 h9 => nomatch h9) (by decide) (by decide) (hts (.classLink RL 14 xO) (by decide +kernel)) (va_Nw.use rfl hE.2.2.2.2.2.2.2.2.2.2.1) hce hcv hcl ?_
  refine lv_astore_n (lv' := [(3, .ref q9), (0, .ref h), (1, .int w), (2, .int p)]) hx hb dL_sing_7 rfl hl (by decide) rfl (fun ls hl => ?_)
  refine lv_ldc (v := (-99999)) hx hb hown (hts (.constant RL 16 (-99999)) (by decide +kernel)) dL_sing_8 ?_
  exact W.iret (v := (-99999)) hx hb hr (fun t ht hW => ⟨⟨_, (), rfl, rfl, ⟨by rw [ht]; exact hP, hD⟩⟩, hS.F ht⟩) hS.2.2 dL_sing_10

set_option maxHeartbeats 4000000 in
set_option maxRecDepth 100000 in
theorem c_L_sing_2 (l : Launch) (hst : l.stackTraces = false) (D : va_G) (N0 : Nat) (cA cL : ClassId) (E : va_W) (h : Nat) (d : Nat → Nat) (z : S7) (c : C5) (w p : Int32) (hw : zw w) (hp : ¬ zp p) : Met l yL_sing wsL_sing ({ frames := 9, cells := 1, slots := 6, locals := 146 }) (va_Pc [.ref h, .int w, .int p] (zPre D N0 cA cL (wX h d cA z c ++ E))) (va_Qi (fun (rv : Int32) (_ : Unit) => rv = (-99999)) (fun _ t => zPost D N0 (wX h d cA z c ++ E) t) (zA N0)) 1 6 (zA N0) := by
  refine va_MetW (cc := cL_sing) (maxL := 4) (ret := (some .int)) (by decide) rfl ?_
  intro pr e s m ag below meth cd s₁ B hml hv
  obtain ⟨rfl, hN, hP, hD, hK, hE⟩ := hv
  have hx := B.exec
  have hb := B.bytes
  have hr := B.returns
  have hts := atoms_spec (ws := wsL_sing) B.pre
  have hown : s.vm.findClass RL = some m.cls := findClass_of_methodNamed B.named
  have hlocks := B.notSynchronized
  have htab := vx_table (x := yL_sing) B (hts (.codeWith yL_sing cL_sing 4 (some .int) [(0, 6, 7, 14), (0, 6, 11, 17)]) List.mem_cons_self)
  have hS : va_S (zA N0) s.heap s.heap [] := va_S.rf
  have hl := lv_entry ([.ref h, .int w, .int p]) (n := 4) (Nat.le_of_ble_eq_true rfl)
  rw [lg_entry_eq]
  generalize (lg_sl ([.ref h, .int w, .int p]) ++ List.replicate (4 - (lg_sl ([.ref h, .int w, .int p])).length) Slot.unset).toArray = ls at hl ⊢
  have hl : lv_has ls 4 [(0, .ref h), (1, .int w), (2, .int p)] := hl
  refine lv_aload_n hx hb dL_sing_0 rfl (lv_at hl 0 rfl) ?_
  refine lv_iload_n hx hb dL_sing_1 rfl (lv_at hl 1 rfl) ?_
  refine lv_iload_n hx hb dL_sing_2 rfl (lv_at hl 2 rfl) ?_
  refine vx_calli (vx_runV (As := [.int w, .int p]) (rest := []) ⟨hx, hb, hml, hown, hts⟩ (x_X0_sing_2 l hst N0 s.heap h w p hw hp) (cwV 2 hts gL_sing_X0_sing rfl rfl rfl (by decide +kernel) ⟨Nat.le_of_ble_eq_true rfl, Nat.le_of_ble_eq_true rfl⟩) ⟨zPx.blind, va_recv hK hP (ci := 0) (q0 := 0) rfl rfl, zPx.call hN hE hS⟩ rfl rfl hl.1 rfl (lv_room (Nat.le_of_ble_eq_true rfl)) dL_sing_3 ⟨Nat.le_refl _, Nat.le_refl _⟩) hS (fun _ _ h9 => h9) (fun _ h9 => h9) (fun _ _ h9 => h9) (fun Ex ce q9 u t H locs ht hvm hp9 hB hz1 hk1 hS hce hcv hcl => ?_) (fun r u t H locs ht hvm hp9 hB hz1 hk1 hS => hp9.elim)
  obtain ⟨rfl, hB2, hB3⟩ := hB
  have hP : va_P D vwCl (wX h d cA z c ++ E) H := hP.kept (fun k q hq => by rw [← ht]; exact hB3 q.1 ((hP k q hq).lt))
  refine vx_catch (name := xI) hown [(⟨0, 6, 7, 14⟩ : ExceptionTableEntry)] (⟨0, 6, 11, 17⟩ : ExceptionTableEntry) [] (htab.trans rfl) (fun z9 h9 => by rw [List.mem_singleton.mp h9]; exact Or.inr ⟨by decide, xO, hts (.classLink RL 14 xO) (by decide +kernel), hE.2.2.2.2.2.2.2.1⟩) (by decide) (by decide) (hts (.classLink RL 17 xI) (by decide +kernel)) (va_Nw.use rfl hE.2.2.2.2.2.2.2.2.2.1) hce hcv hcl ?_
  refine lv_astore_n (lv' := [(3, .ref q9), (0, .ref h), (1, .int w), (2, .int p)]) hx hb dL_sing_11 rfl hl (by decide) rfl (fun ls hl => ?_)
  refine lv_ldc (v := (-99999)) hx hb hown (hts (.constant RL 16 (-99999)) (by decide +kernel)) dL_sing_12 ?_
  exact W.iret (v := (-99999)) hx hb hr (fun t ht hW => ⟨⟨_, (), rfl, rfl, ⟨by rw [ht]; exact hP, hD⟩⟩, hS.F ht⟩) hS.2.2 dL_sing_14

set_option maxHeartbeats 4000000 in
set_option maxRecDepth 100000 in
theorem c_L_slide_v (l : Launch) (D : va_G) (N0 : Nat) (cA cL : ClassId) (E : va_W) (h : Nat) (d : Nat → Nat) (z : S7) (c : C5) (w a b : Int32) (f : Nat) (hc : okC c) (hw : zw w) (hpa : zp a) (hpb : zp b) (hf : 2 ≤ f) (hf2 : f ≤ 50) : Met l yL_slide wsL_slide ({ frames := 8, cells := 0, slots := 0, locals := 187 }) (va_Pc [.ref h, .int w, .int a, .int b, .int (nI f)] (zPre D N0 cA cL (wX h d cA z c ++ E))) (va_Qi (fun (rv : Int32) (_ : Unit) => rv = (zSl c w.toNatClampNeg a b f z f).2.2.2.1 w.toNatClampNeg - z.2.2.2.1 w.toNatClampNeg) (fun _ t => zPost D N0 (wX h d cA (zSl c w.toNatClampNeg a b f z f) c ++ E) t) (zA N0)) 0 0 (zA N0) := by
  refine va_MetW (cc := cL_slide) (maxL := 6) (ret := (some .int)) (by decide) rfl ?_
  intro pr e s m ag below meth cd s₁ B hml hv
  obtain ⟨rfl, hN, hP, hD, hK, hE⟩ := hv
  have hx := B.exec
  have hb := B.bytes
  have hr := B.returns
  have hts := atoms_spec (ws := wsL_slide) B.pre
  have hown : s.vm.findClass RL = some m.cls := findClass_of_methodNamed B.named
  have hlocks := B.notSynchronized
  have hS : va_S (zA N0) s.heap s.heap [] := va_S.rf
  have hl := lv_entry ([.ref h, .int w, .int a, .int b, .int (nI f)]) (n := 6) (Nat.le_of_ble_eq_true rfl)
  rw [lg_entry_eq]
  generalize (lg_sl ([.ref h, .int w, .int a, .int b, .int (nI f)]) ++ List.replicate (6 - (lg_sl ([.ref h, .int w, .int a, .int b, .int (nI f)])).length) Slot.unset).toArray = ls at hl ⊢
  have hl : lv_has ls 6 [(0, .ref h), (1, .int w), (2, .int a), (3, .int b), (4, .int (nI f))] := hl
  refine lv_aload_n hx hb dL_slide_0 rfl (lv_at hl 0 rfl) ?_
  refine lv_iload_n hx hb dL_slide_1 rfl (lv_at hl 1 rfl) ?_
  refine lv_iload_n hx hb dL_slide_2 rfl (lv_at hl 2 rfl) ?_
  refine lv_iload_n hx hb dL_slide_3 rfl (lv_at hl 3 rfl) ?_
  refine lv_iload hx hb dL_slide_4 (lv_at hl 4 rfl) ?_
  refine va_calli (va_runV (As := [.int w, .int a, .int b, .int (nI f)]) (rest := []) ⟨hx, hb, hml, hown, hts⟩ (c_X0_slide_v l D N0 cA cL E h d z c w a b f hc hw hpa hpb hf hf2) (cwV 4 hts gL_slide_X0_slide rfl rfl rfl (by decide +kernel) ⟨Nat.le_of_ble_eq_true rfl, Nat.le_of_ble_eq_true rfl⟩) ⟨zPre.blind, va_recv hK hP (ci := 0) (q0 := 0) rfl rfl, zPre.call hN hP hD hK hE hS⟩ rfl rfl hl.1 rfl (lv_room (Nat.le_of_ble_eq_true rfl)) dL_slide_6 ⟨Nat.zero_le _, Nat.zero_le _⟩) hS (fun _ _ h9 => h9) (fun _ h9 => h9) (fun r_6 _ t H locs ht hvm h_6 hB hz1 hk1 hS => ?_)
  have h_6 : r_6 = ((zSl c w.toNatClampNeg a b f z f).2.2.2.1 w.toNatClampNeg - z.2.2.2.1 w.toNatClampNeg) := h_6
  subst h_6
  obtain ⟨hP, hD⟩ := hB
  rw [ht] at hP
  have hP : va_P D vwCl (wX h d cA (zSl c w.toNatClampNeg a b f z f) c ++ E) H := hP
  have hD : va_D (zA N0) (wX h d cA (zSl c w.toNatClampNeg a b f z f) c ++ E) := hD
  exact W.iret (v := ((zSl c w.toNatClampNeg a b f z f).2.2.2.1 w.toNatClampNeg - z.2.2.2.1 w.toNatClampNeg)) hx hb hr (fun t ht hW => ⟨⟨_, (), rfl, rfl, ⟨by rw [ht]; exact hP, hD⟩⟩, hS.F ht⟩) hS.2.2 dL_slide_9

set_option maxHeartbeats 4000000 in
set_option maxRecDepth 100000 in
theorem c_L_slide_1 (l : Launch) (hst : l.stackTraces = false) (D : va_G) (N0 : Nat) (cA cL : ClassId) (E : va_W) (h : Nat) (d : Nat → Nat) (z : S7) (c : C5) (w a b f : Int32) (hw : ¬ zw w) : Met l yL_slide wsL_slide ({ frames := 9, cells := 1, slots := 6, locals := 150 }) (va_Pc [.ref h, .int w, .int a, .int b, .int f] (zPre D N0 cA cL (wX h d cA z c ++ E))) (va_Qi (fun (rv : Int32) (_ : Unit) => rv = (-99999)) (fun _ t => zPost D N0 (wX h d cA z c ++ E) t) (zA N0)) 1 6 (zA N0) := by
  refine va_MetW (cc := cL_slide) (maxL := 6) (ret := (some .int)) (by decide) rfl ?_
  intro pr e s m ag below meth cd s₁ B hml hv
  obtain ⟨rfl, hN, hP, hD, hK, hE⟩ := hv
  have hx := B.exec
  have hb := B.bytes
  have hr := B.returns
  have hts := atoms_spec (ws := wsL_slide) B.pre
  have hown : s.vm.findClass RL = some m.cls := findClass_of_methodNamed B.named
  have hlocks := B.notSynchronized
  have htab := vx_table (x := yL_slide) B (hts (.codeWith yL_slide cL_slide 6 (some .int) [(0, 9, 10, 14), (0, 9, 15, 17)]) List.mem_cons_self)
  have hS : va_S (zA N0) s.heap s.heap [] := va_S.rf
  have hl := lv_entry ([.ref h, .int w, .int a, .int b, .int f]) (n := 6) (Nat.le_of_ble_eq_true rfl)
  rw [lg_entry_eq]
  generalize (lg_sl ([.ref h, .int w, .int a, .int b, .int f]) ++ List.replicate (6 - (lg_sl ([.ref h, .int w, .int a, .int b, .int f])).length) Slot.unset).toArray = ls at hl ⊢
  have hl : lv_has ls 6 [(0, .ref h), (1, .int w), (2, .int a), (3, .int b), (4, .int f)] := hl
  refine lv_aload_n hx hb dL_slide_0 rfl (lv_at hl 0 rfl) ?_
  refine lv_iload_n hx hb dL_slide_1 rfl (lv_at hl 1 rfl) ?_
  refine lv_iload_n hx hb dL_slide_2 rfl (lv_at hl 2 rfl) ?_
  refine lv_iload_n hx hb dL_slide_3 rfl (lv_at hl 3 rfl) ?_
  refine lv_iload hx hb dL_slide_4 (lv_at hl 4 rfl) ?_
  refine vx_calli (vx_runV (As := [.int w, .int a, .int b, .int f]) (rest := []) ⟨hx, hb, hml, hown, hts⟩ (x_X0_slide_1 l hst N0 s.heap h w a b f hw) (cwV 4 hts gL_slide_X0_slide rfl rfl rfl (by decide +kernel) ⟨Nat.le_of_ble_eq_true rfl, Nat.le_of_ble_eq_true rfl⟩) ⟨zPx.blind, va_recv hK hP (ci := 0) (q0 := 0) rfl rfl, zPx.call hN hE hS⟩ rfl rfl hl.1 rfl (lv_room (Nat.le_of_ble_eq_true rfl)) dL_slide_6 ⟨Nat.le_refl _, Nat.le_refl _⟩) hS (fun _ _ h9 => h9) (fun _ h9 => h9) (fun _ _ h9 => h9) (fun Ex ce q9 u t H locs ht hvm hp9 hB hz1 hk1 hS hce hcv hcl => ?_) (fun r u t H locs ht hvm hp9 hB hz1 hk1 hS => hp9.elim)
  obtain ⟨rfl, hB2, hB3⟩ := hB
  have hP : va_P D vwCl (wX h d cA z c ++ E) H := hP.kept (fun k q hq => by rw [← ht]; exact hB3 q.1 ((hP k q hq).lt))
  refine vx_catch (name := xO) hown [] (⟨0, 9, 10, 14⟩ : ExceptionTableEntry) [(⟨0, 9, 15, 17⟩ : ExceptionTableEntry)] (htab.trans rfl) (fun z9 h9 => nomatch h9) (by decide) (by decide) (hts (.classLink RL 14 xO) (by decide +kernel)) (va_Nw.use rfl hE.2.2.2.2.2.2.2.2.2.2.1) hce hcv hcl ?_
  refine lv_astore (lv' := [(5, .ref q9), (0, .ref h), (1, .int w), (2, .int a), (3, .int b), (4, .int f)]) hx hb dL_slide_10 hl (by decide) rfl (fun ls hl => ?_)
  refine lv_ldc (v := (-99999)) hx hb hown (hts (.constant RL 16 (-99999)) (by decide +kernel)) dL_slide_12 ?_
  exact W.iret (v := (-99999)) hx hb hr (fun t ht hW => ⟨⟨_, (), rfl, rfl, ⟨by rw [ht]; exact hP, hD⟩⟩, hS.F ht⟩) hS.2.2 dL_slide_14

set_option maxHeartbeats 4000000 in
set_option maxRecDepth 100000 in
theorem c_L_slide_2 (l : Launch) (hst : l.stackTraces = false) (D : va_G) (N0 : Nat) (cA cL : ClassId) (E : va_W) (h : Nat) (d : Nat → Nat) (z : S7) (c : C5) (w a b f : Int32) (hw : zw w) (hn : ¬ (zp a ∧ zp b ∧ (2 ≤ f ∧ f ≤ 50))) : Met l yL_slide wsL_slide ({ frames := 9, cells := 1, slots := 6, locals := 150 }) (va_Pc [.ref h, .int w, .int a, .int b, .int f] (zPre D N0 cA cL (wX h d cA z c ++ E))) (va_Qi (fun (rv : Int32) (_ : Unit) => rv = (-99999)) (fun _ t => zPost D N0 (wX h d cA z c ++ E) t) (zA N0)) 1 6 (zA N0) := by
  refine va_MetW (cc := cL_slide) (maxL := 6) (ret := (some .int)) (by decide) rfl ?_
  intro pr e s m ag below meth cd s₁ B hml hv
  obtain ⟨rfl, hN, hP, hD, hK, hE⟩ := hv
  have hx := B.exec
  have hb := B.bytes
  have hr := B.returns
  have hts := atoms_spec (ws := wsL_slide) B.pre
  have hown : s.vm.findClass RL = some m.cls := findClass_of_methodNamed B.named
  have hlocks := B.notSynchronized
  have htab := vx_table (x := yL_slide) B (hts (.codeWith yL_slide cL_slide 6 (some .int) [(0, 9, 10, 14), (0, 9, 15, 17)]) List.mem_cons_self)
  have hS : va_S (zA N0) s.heap s.heap [] := va_S.rf
  have hl := lv_entry ([.ref h, .int w, .int a, .int b, .int f]) (n := 6) (Nat.le_of_ble_eq_true rfl)
  rw [lg_entry_eq]
  generalize (lg_sl ([.ref h, .int w, .int a, .int b, .int f]) ++ List.replicate (6 - (lg_sl ([.ref h, .int w, .int a, .int b, .int f])).length) Slot.unset).toArray = ls at hl ⊢
  have hl : lv_has ls 6 [(0, .ref h), (1, .int w), (2, .int a), (3, .int b), (4, .int f)] := hl
  refine lv_aload_n hx hb dL_slide_0 rfl (lv_at hl 0 rfl) ?_
  refine lv_iload_n hx hb dL_slide_1 rfl (lv_at hl 1 rfl) ?_
  refine lv_iload_n hx hb dL_slide_2 rfl (lv_at hl 2 rfl) ?_
  refine lv_iload_n hx hb dL_slide_3 rfl (lv_at hl 3 rfl) ?_
  refine lv_iload hx hb dL_slide_4 (lv_at hl 4 rfl) ?_
  refine vx_calli (vx_runV (As := [.int w, .int a, .int b, .int f]) (rest := []) ⟨hx, hb, hml, hown, hts⟩ (x_X0_slide_I l hst N0 s.heap h w a b f hw hn) (cwV 4 hts gL_slide_X0_slide rfl rfl rfl (by decide +kernel) ⟨Nat.le_of_ble_eq_true rfl, Nat.le_of_ble_eq_true rfl⟩) ⟨zPx.blind, va_recv hK hP (ci := 0) (q0 := 0) rfl rfl, zPx.call hN hE hS⟩ rfl rfl hl.1 rfl (lv_room (Nat.le_of_ble_eq_true rfl)) dL_slide_6 ⟨Nat.le_refl _, Nat.le_refl _⟩) hS (fun _ _ h9 => h9) (fun _ h9 => h9) (fun _ _ h9 => h9) (fun Ex ce q9 u t H locs ht hvm hp9 hB hz1 hk1 hS hce hcv hcl => ?_) (fun r u t H locs ht hvm hp9 hB hz1 hk1 hS => hp9.elim)
  obtain ⟨rfl, hB2, hB3⟩ := hB
  have hP : va_P D vwCl (wX h d cA z c ++ E) H := hP.kept (fun k q hq => by rw [← ht]; exact hB3 q.1 ((hP k q hq).lt))
  refine vx_catch (name := xI) hown [(⟨0, 9, 10, 14⟩ : ExceptionTableEntry)] (⟨0, 9, 15, 17⟩ : ExceptionTableEntry) [] (htab.trans rfl) (fun z9 h9 => by rw [List.mem_singleton.mp h9]; exact Or.inr ⟨by decide, xO, hts (.classLink RL 14 xO) (by decide +kernel), hE.2.2.2.2.2.2.2.1⟩) (by decide) (by decide) (hts (.classLink RL 17 xI) (by decide +kernel)) (va_Nw.use rfl hE.2.2.2.2.2.2.2.2.2.1) hce hcv hcl ?_
  refine lv_astore (lv' := [(5, .ref q9), (0, .ref h), (1, .int w), (2, .int a), (3, .int b), (4, .int f)]) hx hb dL_slide_15 hl (by decide) rfl (fun ls hl => ?_)
  refine lv_ldc (v := (-99999)) hx hb hown (hts (.constant RL 16 (-99999)) (by decide +kernel)) dL_slide_17 ?_
  exact W.iret (v := (-99999)) hx hb hr (fun t ht hW => ⟨⟨_, (), rfl, rfl, ⟨by rw [ht]; exact hP, hD⟩⟩, hS.F ht⟩) hS.2.2 dL_slide_19

set_option maxHeartbeats 4000000 in
set_option maxRecDepth 100000 in
theorem c_L_rest_v (l : Launch) (D : va_G) (N0 : Nat) (cA cL : ClassId) (E : va_W) (h : Nat) (d : Nat → Nat) (z : S7) (c : C5) (w : Int32) (hw : zw w) : Met l yL_rest wsL_rest ({ frames := 2, cells := 0, slots := 0, locals := 42 }) (va_Pc [.ref h, .int w] (zPre D N0 cA cL (wX h d cA z c ++ E))) (va_Qi (fun (rv : Int32) (_ : Unit) => rv = z.1 w.toNatClampNeg) (fun _ t => zPost D N0 (wX h d cA ((upd z.1 w.toNatClampNeg (-1)), (upd z.2.1 w.toNatClampNeg 0), z.2.2.1, z.2.2.2.1, z.2.2.2.2.1, z.2.2.2.2.2.1, z.2.2.2.2.2.2) c ++ E) t) (zA N0)) 0 0 (zA N0) := by
  refine va_MetW (cc := cL_rest) (maxL := 3) (ret := (some .int)) (by decide) rfl ?_
  intro pr e s m ag below meth cd s₁ B hml hv
  obtain ⟨rfl, hN, hP, hD, hK, hE⟩ := hv
  have hx := B.exec
  have hb := B.bytes
  have hr := B.returns
  have hts := atoms_spec (ws := wsL_rest) B.pre
  have hown : s.vm.findClass RL = some m.cls := findClass_of_methodNamed B.named
  have hlocks := B.notSynchronized
  have hS : va_S (zA N0) s.heap s.heap [] := va_S.rf
  have hl := lv_entry ([.ref h, .int w]) (n := 3) (Nat.le_of_ble_eq_true rfl)
  rw [lg_entry_eq]
  generalize (lg_sl ([.ref h, .int w]) ++ List.replicate (3 - (lg_sl ([.ref h, .int w])).length) Slot.unset).toArray = ls at hl ⊢
  have hl : lv_has ls 3 [(0, .ref h), (1, .int w)] := hl
  refine lv_aload_n hx hb dL_rest_0 rfl (lv_at hl 0 rfl) ?_
  refine lv_iload_n hx hb dL_rest_1 rfl (lv_at hl 1 rfl) ?_
  refine va_calli (va_runV (As := [.int w]) (rest := []) ⟨hx, hb, hml, hown, hts⟩ (c_X0_rest_v l D N0 cA cL E h d z c w hw) (cwV 1 hts gL_rest_X0_rest rfl rfl rfl (by decide +kernel) ⟨Nat.le_of_ble_eq_true rfl, Nat.le_of_ble_eq_true rfl⟩) ⟨zPre.blind, va_recv hK hP (ci := 0) (q0 := 0) rfl rfl, zPre.call hN hP hD hK hE hS⟩ rfl rfl hl.1 rfl (lv_room (Nat.le_of_ble_eq_true rfl)) dL_rest_2 ⟨Nat.zero_le _, Nat.zero_le _⟩) hS (fun _ _ h9 => h9) (fun _ h9 => h9) (fun r_2 _ t H locs ht hvm h_2 hB hz1 hk1 hS => ?_)
  have h_2 : r_2 = (z.1 w.toNatClampNeg) := h_2
  subst h_2
  obtain ⟨hP, hD⟩ := hB
  rw [ht] at hP
  have hP : va_P D vwCl (wX h d cA ((upd z.1 w.toNatClampNeg (-1)), (upd z.2.1 w.toNatClampNeg 0), z.2.2.1, z.2.2.2.1, z.2.2.2.2.1, z.2.2.2.2.2.1, z.2.2.2.2.2.2) c ++ E) H := hP
  have hD : va_D (zA N0) (wX h d cA ((upd z.1 w.toNatClampNeg (-1)), (upd z.2.1 w.toNatClampNeg 0), z.2.2.1, z.2.2.2.1, z.2.2.2.2.1, z.2.2.2.2.2.1, z.2.2.2.2.2.2) c ++ E) := hD
  exact W.iret (v := (z.1 w.toNatClampNeg)) hx hb hr (fun t ht hW => ⟨⟨_, (), rfl, rfl, ⟨by rw [ht]; exact hP, hD⟩⟩, hS.F ht⟩) hS.2.2 dL_rest_5

set_option maxHeartbeats 4000000 in
set_option maxRecDepth 100000 in
theorem c_L_rest_1 (l : Launch) (hst : l.stackTraces = false) (D : va_G) (N0 : Nat) (cA cL : ClassId) (E : va_W) (h : Nat) (d : Nat → Nat) (z : S7) (c : C5) (w : Int32) (hw : ¬ zw w) : Met l yL_rest wsL_rest ({ frames := 9, cells := 1, slots := 6, locals := 146 }) (va_Pc [.ref h, .int w] (zPre D N0 cA cL (wX h d cA z c ++ E))) (va_Qi (fun (rv : Int32) (_ : Unit) => rv = (-99999)) (fun _ t => zPost D N0 (wX h d cA z c ++ E) t) (zA N0)) 1 6 (zA N0) := by
  refine va_MetW (cc := cL_rest) (maxL := 3) (ret := (some .int)) (by decide) rfl ?_
  intro pr e s m ag below meth cd s₁ B hml hv
  obtain ⟨rfl, hN, hP, hD, hK, hE⟩ := hv
  have hx := B.exec
  have hb := B.bytes
  have hr := B.returns
  have hts := atoms_spec (ws := wsL_rest) B.pre
  have hown : s.vm.findClass RL = some m.cls := findClass_of_methodNamed B.named
  have hlocks := B.notSynchronized
  have htab := vx_table (x := yL_rest) B (hts (.codeWith yL_rest cL_rest 3 (some .int) [(0, 5, 6, 14)]) List.mem_cons_self)
  have hS : va_S (zA N0) s.heap s.heap [] := va_S.rf
  have hl := lv_entry ([.ref h, .int w]) (n := 3) (Nat.le_of_ble_eq_true rfl)
  rw [lg_entry_eq]
  generalize (lg_sl ([.ref h, .int w]) ++ List.replicate (3 - (lg_sl ([.ref h, .int w])).length) Slot.unset).toArray = ls at hl ⊢
  have hl : lv_has ls 3 [(0, .ref h), (1, .int w)] := hl
  refine lv_aload_n hx hb dL_rest_0 rfl (lv_at hl 0 rfl) ?_
  refine lv_iload_n hx hb dL_rest_1 rfl (lv_at hl 1 rfl) ?_
  refine vx_calli (vx_runV (As := [.int w]) (rest := []) ⟨hx, hb, hml, hown, hts⟩ (x_X0_rest_1 l hst N0 s.heap h w hw) (cwV 1 hts gL_rest_X0_rest rfl rfl rfl (by decide +kernel) ⟨Nat.le_of_ble_eq_true rfl, Nat.le_of_ble_eq_true rfl⟩) ⟨zPx.blind, va_recv hK hP (ci := 0) (q0 := 0) rfl rfl, zPx.call hN hE hS⟩ rfl rfl hl.1 rfl (lv_room (Nat.le_of_ble_eq_true rfl)) dL_rest_2 ⟨Nat.le_refl _, Nat.le_refl _⟩) hS (fun _ _ h9 => h9) (fun _ h9 => h9) (fun _ _ h9 => h9) (fun Ex ce q9 u t H locs ht hvm hp9 hB hz1 hk1 hS hce hcv hcl => ?_) (fun r u t H locs ht hvm hp9 hB hz1 hk1 hS => hp9.elim)
  obtain ⟨rfl, hB2, hB3⟩ := hB
  have hP : va_P D vwCl (wX h d cA z c ++ E) H := hP.kept (fun k q hq => by rw [← ht]; exact hB3 q.1 ((hP k q hq).lt))
  refine vx_catch (name := xO) hown [] (⟨0, 5, 6, 14⟩ : ExceptionTableEntry) [] (htab.trans rfl) (fun z9 h9 => nomatch h9) (by decide) (by decide) (hts (.classLink RL 14 xO) (by decide +kernel)) (va_Nw.use rfl hE.2.2.2.2.2.2.2.2.2.2.1) hce hcv hcl ?_
  refine lv_astore_n (lv' := [(2, .ref q9), (0, .ref h), (1, .int w)]) hx hb dL_rest_6 rfl hl (by decide) rfl (fun ls hl => ?_)
  refine lv_ldc (v := (-99999)) hx hb hown (hts (.constant RL 16 (-99999)) (by decide +kernel)) dL_rest_7 ?_
  exact W.iret (v := (-99999)) hx hb hr (fun t ht hW => ⟨⟨_, (), rfl, rfl, ⟨by rw [ht]; exact hP, hD⟩⟩, hS.F ht⟩) hS.2.2 dL_rest_9
end
