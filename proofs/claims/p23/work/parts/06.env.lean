/-! the world of the class; what every method needs of the start -/
abbrev wX (h : Nat) (d : Nat → Nat) (cA : ClassId) (z : S7) (c : C5) : va_W := [(h, .inr (0, [.ref (d 0), .ref (d 1), .ref (d 2), .ref (d 3), .ref (d 4), .ref (d 5), .ref (d 6), .int (nI c.1), .int (nI c.2.1), .int c.2.2.1, .int c.2.2.2.1, .int c.2.2.2.2])), (d 0, .inl (cA, 4, .inl z.1)), (d 1, .inl (cA, 4, .inl z.2.1)), (d 2, .inl (cA, 4, .inl z.2.2.1)), (d 3, .inl (cA, 4, .inl z.2.2.2.1)), (d 4, .inl (cA, 4, .inl z.2.2.2.2.1)), (d 5, .inl (cA, 4, .inl z.2.2.2.2.2.1)), (d 6, .inl (cA, 12, .inl z.2.2.2.2.2.2))]
def zA (N0 : Nat) : Nat → Prop := fun q => N0 ≤ q
abbrev xI : String := "java/lang/IllegalArgumentException"
abbrev xO : String := "java/lang/IndexOutOfBoundsException"
abbrev zDw : List Cond := [.castable xI xI, .castable xO xO, .declares (Bundle.initS "java/lang/RuntimeException"), .declares (Bundle.initS "java/lang/Exception"), .declares (Bundle.initS Bundle.tN)]
def zDs (U : State) : Prop := va_Nw (.castable xI xI) U ∧ va_Nw (.castable xO xO) U ∧ va_Nw (.declares (Bundle.initS "java/lang/RuntimeException")) U ∧ va_Nw (.declares (Bundle.initS "java/lang/Exception")) U ∧ va_Nw (.declares (Bundle.initS Bundle.tN)) U
theorem zDs.warm {s U : State} (hW : s.WarmedH U.vm) (h : zDs s) : zDs U := ⟨va_Nw.warmC hW h.1, va_Nw.warmC hW h.2.1, va_Nw.warmD hW h.2.2.1, va_Nw.warmD hW h.2.2.2.1, va_Nw.warmD hW h.2.2.2.2⟩
theorem zDs.same {u U : State} (hv : u.vm = U.vm) (h : zDs u) : zDs U := ⟨va_Nw.same rfl hv h.1, va_Nw.same rfl hv h.2.1, va_Nw.same rfl hv h.2.2.1, va_Nw.same rfl hv h.2.2.2.1, va_Nw.same rfl hv h.2.2.2.2⟩
theorem zDs.use {U : State} {A : Array Value} (h : zDs U) : ∀ w ∈ zDw, w.before A U = true := vx_c (va_Nw.use rfl h.1) (vx_c (va_Nw.use rfl h.2.1) (vx_c (va_Nw.use rfl h.2.2.1) (vx_c (va_Nw.use rfl h.2.2.2.1) (vx_c (va_Nw.use rfl h.2.2.2.2) vx_n))))
def zEnv (N0 : Nat) (U : State) : Prop :=
  (∃ t : Nat, va_Z "TunedWrens" "STEPS" "[I" (.ref t) (zA N0) U U.heap ∧ va_T .int t 7 (fun j => .int (nI (zST j))) (zA N0) U U.heap) ∧
  vx_Zq Bundle.tN "UNASSIGNED_STACK" Bundle.steD (zA N0) U U.heap ∧ vx_Zq Bundle.tN "SUPPRESSED_SENTINEL" Bundle.listD (zA N0) U U.heap ∧
  (∃ a : Nat, vk_R RX0 108 "out of range" a U) ∧ (∃ a : Nat, vk_R RX0 104 "no such wren" a U) ∧ (∃ a : Nat, vk_R RX0 77 "no such rung" a U) ∧ (∃ a : Nat, vk_R RX0 95 "no such semitone" a U) ∧
  va_Nc xI xO U ∧ va_Nc xO xI U ∧ zDs U
theorem zEnv.call {N0 : Nat} {s U : State} {H : Heap} {locs : List Loc} (h : zEnv N0 s) (hS : va_S (zA N0) s.heap H locs) (hW : s.WarmedH U.vm) (hU : U.heap = H) : zEnv N0 U := by
  subst hU
  obtain ⟨⟨t, h1, h2⟩, h3, h4, ⟨a1, h5⟩, ⟨a2, h6⟩, ⟨a3, h7⟩, ⟨a4, h8⟩, h9, h10, h11⟩ := h
  have hk : ∀ a : Nat, a < s.heap.size → ¬ zA N0 a → U.heap[a]? = s.heap[a]? := hS.2.1
  exact ⟨⟨t, va_Z.moved hW.alike (h1.kept hk), va_T.moved hW.alike (h2.kept hk)⟩, vx_Zq.moved hW.alike (h3.kept hk), vx_Zq.moved hW.alike (h4.kept hk), ⟨a1, h5.warm hW⟩, ⟨a2, h6.warm hW⟩, ⟨a3, h7.warm hW⟩, ⟨a4, h8.warm hW⟩, h9.moved hW.alike, h10.moved hW.alike, h11.warm hW⟩
theorem zEnv.same {N0 : Nat} {u U : State} (hv : U.vm = u.vm) (hh : U.heap = u.heap) (h : zEnv N0 u) : zEnv N0 U := by
  have ha : u.vm.Alike U.vm := by rw [hv]; exact Vm.Alike.refl _
  obtain ⟨⟨t, h1, h2⟩, h3, h4, ⟨a1, h5⟩, ⟨a2, h6⟩, ⟨a3, h7⟩, ⟨a4, h8⟩, h9, h10, h11⟩ := h
  unfold zEnv
  rw [hh]
  exact ⟨⟨t, va_Z.moved ha h1, va_T.moved ha h2⟩, vx_Zq.moved ha h3, vx_Zq.moved ha h4, ⟨a1, h5.same hv⟩, ⟨a2, h6.same hv⟩, ⟨a3, h7.same hv⟩, ⟨a4, h8.same hv⟩, h9.moved ha, h10.moved ha, h11.same hv.symm⟩
def zPre (D : va_G) (N0 : Nat) (cA cL : ClassId) (W : va_W) (U : State) : Prop := N0 ≤ U.heap.size ∧ va_P D vwCl W U.heap ∧ va_D (zA N0) W ∧ va_K D vwCl [(cA, .int)] U ∧ zEnv N0 U
def zPost (D : va_G) (N0 : Nat) (W : va_W) (t : State) : Prop := va_P D vwCl W t.heap ∧ va_D (zA N0) W
theorem zPre.blind {D : va_G} {N0 : Nat} {cA cL : ClassId} {W : va_W} {av : List Value} : FrameBlind (va_Pc av (zPre D N0 cA cL W)) := by
  intro a U g mk h
  obtain ⟨h0, h1, h2, h3, h4, h5⟩ := h
  exact ⟨h0, h1, h2, h3, va_K.moved (u := U) (U := U.calling g mk a) (Vm.Alike.refl U.vm) h4, zEnv.same (u := U) (U := U.calling g mk a) rfl rfl h5⟩
theorem zPre.call {D : va_G} {N0 : Nat} {cA cL : ClassId} {W : va_W} {av : List Value} {s : State} {H : Heap} {locs : List Loc} (hN : N0 ≤ s.heap.size) (hP : va_P D vwCl W H) (hD : va_D (zA N0) W) (hK : va_K D vwCl [(cA, .int)] s) (hE : zEnv N0 s) (hS : va_S (zA N0) s.heap H locs) : ∀ U : State, U.heap = H → s.WarmedH U.vm → va_Pc av (zPre D N0 cA cL W) av.toArray U := fun U hU hW => ⟨rfl, by rw [hU]; exact Nat.le_trans hN hS.1, by rw [hU]; exact hP, hD, va_K.moved hW.alike hK, hE.call hS hW hU⟩
def zPe (N0 : Nat) (U : State) : Prop := N0 ≤ U.heap.size ∧ zEnv N0 U
theorem zPe.blind {N0 : Nat} {av : List Value} : FrameBlind (va_Pc av (zPe N0)) := by
  intro a U g mk h
  exact ⟨h.1, h.2.1, zEnv.same (u := U) (U := U.calling g mk a) rfl rfl h.2.2⟩
theorem zPe.call {N0 : Nat} {av : List Value} {s : State} {H : Heap} {locs : List Loc} (hN : N0 ≤ s.heap.size) (hE : zEnv N0 s) (hS : va_S (zA N0) s.heap H locs) : ∀ U : State, U.heap = H → s.WarmedH U.vm → va_Pc av (zPe N0) av.toArray U := fun U hU hW => ⟨rfl, by rw [hU]; exact Nat.le_trans hN hS.1, hE.call hS hW hU⟩
theorem zT.blind {av : List Value} : FrameBlind (va_Pc av (fun _ => True)) := fun _ _ _ _ h => ⟨h.1, trivial⟩
theorem zT.call {av : List Value} {s : State} {H : Heap} : ∀ U : State, U.heap = H → s.WarmedH U.vm → va_Pc av (fun _ => True) av.toArray U := fun _ _ _ => ⟨rfl, trivial⟩
theorem zx_woI : ∀ w ∈ (vx_atS RX0 110 xI ["java/lang/RuntimeException", "java/lang/Exception"]).filter (fun w => !goodWord w), w ∈ zDw := by decide +kernel
theorem zx_woO : ∀ w ∈ (vx_atS RX0 79 xO ["java/lang/RuntimeException", "java/lang/Exception"]).filter (fun w => !goodWord w), w ∈ zDw := by decide +kernel
/-- Met.ofW by the method's own name: no native stands in its place (java/lang/Math's own floorMod, floorDiv) -/
theorem zMet_ofW {l : Launch} {y : MethodName} {ws ws' : List Cond} {rm : Room} {Pc : Array Value → State → Prop} {Qc : Array Value → State → Outcome → State → Prop} {mc ms : Nat} {free : Addr → Prop} {cc : ByteArray} {maxL : Nat} {ret : Option FieldType}
    (hy : plainFor y = true) (hw : ws = Cond.code y cc maxL ret :: ws')
    (body : ∀ p e s m args below meth c s₁, BodyLoose p l y (headSpec ws rm) cc maxL ret e s m args below meth c s₁ → c.maxLocals = maxL → Pc args s →
      W p l e (headSpec ws rm).room s m args below meth c s.heap [] 0 0 (MQ below Qc args s mc ms free) (entryFrame m args maxL)) : Met l y ws rm Pc Qc mc ms free := by
  refine MetFree.of_bodySF (code := cc) (maxLocals := maxL) (ret := ret) hy ?_ ?_
  · intro args s m h hn
    obtain ⟨meth, c, h1, h2, h3, h4, h5, h6, -, -⟩ := Cond.code_spec hn (atoms_spec (ws := ws) h _ (by rw [hw]; exact List.mem_cons_self))
    exact ⟨meth, c, h1, h2, h3, h4, h5, h6⟩
  · intro p e s m args below meth c s₁ B hml hP _
    have hh0 : s₁.heap = s.heap := by rw [B.state]; rfl
    obtain ⟨t, a1, o, b1, b2, b3⟩ := body p e s m args below meth c s₁ B hml hP s₁ hh0 (Stand.of_body B)
    exact ⟨t, o, a1, b1, b2, ⟨b3.1, b3.2⟩⟩
