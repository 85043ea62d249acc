def zPx (N0 : Nat) (Hx : Heap) (U : State) : Prop := U.heap = Hx ∧ zPe N0 U
theorem zPx.blind {N0 : Nat} {Hx : Heap} {av : List Value} : FrameBlind (va_Pc av (fun U => U.heap = Hx ∧ zPe N0 U)) := by
  intro a U g mk h
  exact ⟨h.1, h.2.1, h.2.2.1, zEnv.same (u := U) (U := U.calling g mk a) rfl rfl h.2.2.2⟩
theorem zPx.call {N0 : Nat} {av : List Value} {s : State} {H : Heap} {locs : List Loc} (hN : N0 ≤ s.heap.size) (hE : zEnv N0 s) (hS : va_S (zA N0) s.heap H locs) : ∀ U : State, U.heap = H → s.WarmedH U.vm → va_Pc av (fun U => U.heap = H ∧ zPe N0 U) av.toArray U := fun U hU hW => ⟨rfl, hU, by rw [hU]; exact Nat.le_trans hN hS.1, hE.call hS hW hU⟩
theorem zPw.blind {D : va_G} {N0 : Nat} {cA cL : ClassId} {W : va_W} {Hx : Heap} {av : List Value} : FrameBlind (va_Pc av (fun U => U.heap = Hx ∧ zPre D N0 cA cL W U)) := by
  intro a U g mk h
  obtain ⟨h9, h8, h0, h1, h2, h3, h4⟩ := h
  exact ⟨h9, h8, h0, h1, h2, va_K.moved (u := U) (U := U.calling g mk a) (Vm.Alike.refl U.vm) h3, zEnv.same (u := U) (U := U.calling g mk a) rfl rfl h4⟩
theorem zx_otI110 : ∀ w ∈ Cond.classLink RX0 106 xI :: Cond.initialized xI :: vx_atS RX0 110 xI ["java/lang/RuntimeException", "java/lang/Exception"], vx_ot w = true := by decide +kernel
theorem zx_otO79 : ∀ w ∈ Cond.classLink RX0 75 xO :: Cond.initialized xO :: vx_atS RX0 79 xO ["java/lang/RuntimeException", "java/lang/Exception"], vx_ot w = true := by decide +kernel
theorem zx_in_X0_requireRange : ∀ w ∈ (vx_atS RX0 110 xI ["java/lang/RuntimeException", "java/lang/Exception"]).filter goodWord, w ∈ wsX0_requireRange := fun _ h => List.mem_cons_of_mem _ (List.mem_append_right _ h)
theorem zx_in_X0_requireWren : ∀ w ∈ (vx_atS RX0 79 xO ["java/lang/RuntimeException", "java/lang/Exception"]).filter goodWord, w ∈ wsX0_requireWren := fun _ h => List.mem_cons_of_mem _ (List.mem_append_right _ h)
theorem zx_in_X0_rung : ∀ w ∈ (vx_atS RX0 79 xO ["java/lang/RuntimeException", "java/lang/Exception"]).filter goodWord, w ∈ wsX0_rung := fun _ h => List.mem_cons_of_mem _ (List.mem_append_right _ h)
theorem zx_in_X0_sung : ∀ w ∈ (vx_atS RX0 79 xO ["java/lang/RuntimeException", "java/lang/Exception"]).filter goodWord, w ∈ wsX0_sung := fun _ h => List.mem_cons_of_mem _ (List.mem_append_right _ h)
theorem zw_of {w : Int32} (h0 : 0 ≤ w) (h : w < 4) : zw w := by
  refine ⟨h0, ?_⟩
  rw [fa_lt] at h; rw [fa_le]
  have e4 : (4 : Int32).toInt = 4 := rfl
  have e3 : (3 : Int32).toInt = 3 := rfl
  omega
theorem zk_of {w : Int32} (h0 : 0 ≤ w) (h : w < 12) : 0 ≤ w ∧ w ≤ 11 := by
  refine ⟨h0, ?_⟩
  rw [fa_lt] at h; rw [fa_le]
  have e4 : (12 : Int32).toInt = 12 := rfl
  have e3 : (11 : Int32).toInt = 11 := rfl
  omega

set_option maxHeartbeats 4000000 in
set_option maxRecDepth 100000 in
theorem x_X0_requireRange (l : Launch) (hst : l.stackTraces = false) (N0 : Nat) (Hx : Heap) (v : Int32) (a : Int32) (b : Int32) (hv : ¬ (a ≤ v ∧ v ≤ b)) : vx_Met l yX0_requireRange wsX0_requireRange ({ frames := 6, cells := 1, slots := 6, locals := 82 }) (va_Pc [.int v, .int a, .int b] (fun U => U.heap = Hx ∧ zPe N0 U)) (va_Qv (fun (_ : Unit) => False) (fun _ _ => True) (zA N0)) (vx_X (fun (_ : Unit) => True) (fun E _ t => E = xI ∧ Hx.size ≤ t.heap.size ∧ ∀ q : Nat, q < Hx.size → t.heap[q]? = Hx[q]?) (zA N0)) 1 6 (zA N0) := by
  refine vx_ofW (cc := cX0_requireRange) (maxL := 3) (ret := none) (by decide) rfl ?_
  intro pr e s m ag below meth cd s₁ B hml hnt hv
  obtain ⟨rfl, rfl, hN, hE⟩ := hv
  have hx := B.exec
  have hb := B.bytes
  have hts := atoms_spec (ws := wsX0_requireRange) B.pre
  have hown : s.vm.findClass RX0 = some m.cls := findClass_of_methodNamed B.named
  have hlocks := B.notSynchronized
  have hS : va_S (zA N0) s.heap s.heap [] := va_S.rf
  have hl := lv_entry ([.int v, .int a, .int b]) (n := 3) (Nat.le_of_ble_eq_true rfl)
  rw [lg_entry_eq]
  generalize (lg_sl ([.int v, .int a, .int b]) ++ List.replicate (3 - (lg_sl ([.int v, .int a, .int b])).length) Slot.unset).toArray = ls at hl ⊢
  have hl : lv_has ls 3 [(0, .int v), (1, .int a), (2, .int b)] := hl
  refine lv_iload_n hx hb dX0_requireRange_0 rfl (lv_at hl 0 rfl) ?_
  refine lv_iload_n hx hb dX0_requireRange_1 rfl (lv_at hl 1 rfl) ?_
  refine lv_icmp_lt (tgt := 10) hx hb dX0_requireRange_2 (by decide) (fun c_2 => ?_) (fun c_2 => ?_)
  · obtain ⟨sa, hsa⟩ := hE.2.2.2.1
    have hat : ∀ w ∈ vx_atS RX0 110 xI ["java/lang/RuntimeException", "java/lang/Exception"], w.before _ s = true := vx_hat (fun w h9 => hts w (zx_in_X0_requireRange w h9)) zx_woI (hE.2.2.2.2.2.2.2.2.2.use)
    exact vx_throwS (cls := xI) (names := ["java/lang/RuntimeException", "java/lang/Exception"]) (ik := 106) (is := 108) (ic := 110) hx hb hst hown (by decide +kernel) (by decide +kernel) (hts (.classLink RX0 106 xI) (by decide +kernel)) (hts (.initialized xI) (by decide +kernel)) hsa hat zx_otI110 hE.2.1 hE.2.2.1 hS (hl.1.trans hml.symm) dX0_requireRange_10 dX0_requireRange_13 dX0_requireRange_14 dX0_requireRange_16 dX0_requireRange_19 (fun x9 h9 => (hnt x9 h9).elim) (Nat.le_of_ble_eq_true rfl) (Nat.le_of_ble_eq_true rfl) (Nat.le_of_ble_eq_true rfl) (Nat.le_of_ble_eq_true rfl) hlocks (fun t _ h8 h9 => ⟨(), trivial, ⟨rfl, h8, h9⟩, h8, fun q h6 _ => h9 q h6⟩) hS.2.2 (Nat.le_refl _) (Nat.le_refl _)
  · refine lv_iload_n hx hb dX0_requireRange_5 rfl (lv_at hl 0 rfl) ?_
    refine lv_iload_n hx hb dX0_requireRange_6 rfl (lv_at hl 2 rfl) ?_
    refine lv_icmp_le (tgt := 20) hx hb dX0_requireRange_7 (by decide) (fun c_7 => ?_) (fun c_7 => ?_)
    · exact absurd ⟨Int32.not_lt.mp c_2, c_7⟩ hv
    · obtain ⟨sa, hsa⟩ := hE.2.2.2.1
      have hat : ∀ w ∈ vx_atS RX0 110 xI ["java/lang/RuntimeException", "java/lang/Exception"], w.before _ s = true := vx_hat (fun w h9 => hts w (zx_in_X0_requireRange w h9)) zx_woI (hE.2.2.2.2.2.2.2.2.2.use)
      exact vx_throwS (cls := xI) (names := ["java/lang/RuntimeException", "java/lang/Exception"]) (ik := 106) (is := 108) (ic := 110) hx hb hst hown (by decide +kernel) (by decide +kernel) (hts (.classLink RX0 106 xI) (by decide +kernel)) (hts (.initialized xI) (by decide +kernel)) hsa hat zx_otI110 hE.2.1 hE.2.2.1 hS (hl.1.trans hml.symm) dX0_requireRange_10 dX0_requireRange_13 dX0_requireRange_14 dX0_requireRange_16 dX0_requireRange_19 (fun x9 h9 => (hnt x9 h9).elim) (Nat.le_of_ble_eq_true rfl) (Nat.le_of_ble_eq_true rfl) (Nat.le_of_ble_eq_true rfl) (Nat.le_of_ble_eq_true rfl) hlocks (fun t _ h8 h9 => ⟨(), trivial, ⟨rfl, h8, h9⟩, h8, fun q h6 _ => h9 q h6⟩) hS.2.2 (Nat.le_refl _) (Nat.le_refl _)

set_option maxHeartbeats 4000000 in
set_option maxRecDepth 100000 in
theorem x_X0_requireWren (l : Launch) (hst : l.stackTraces = false) (N0 : Nat) (Hx : Heap) (w : Int32) (hw : ¬ zw w) : vx_Met l yX0_requireWren wsX0_requireWren ({ frames := 6, cells := 1, slots := 6, locals := 82 }) (va_Pc [.int w] (fun U => U.heap = Hx ∧ zPe N0 U)) (va_Qv (fun (_ : Unit) => False) (fun _ _ => True) (zA N0)) (vx_X (fun (_ : Unit) => True) (fun E _ t => E = xO ∧ Hx.size ≤ t.heap.size ∧ ∀ q : Nat, q < Hx.size → t.heap[q]? = Hx[q]?) (zA N0)) 1 6 (zA N0) := by
  refine vx_ofW (cc := cX0_requireWren) (maxL := 1) (ret := none) (by decide) rfl ?_
  intro pr e s m ag below meth cd s₁ B hml hnt hv
  obtain ⟨rfl, rfl, hN, hE⟩ := hv
  have hx := B.exec
  have hb := B.bytes
  have hts := atoms_spec (ws := wsX0_requireWren) B.pre
  have hown : s.vm.findClass RX0 = some m.cls := findClass_of_methodNamed B.named
  have hlocks := B.notSynchronized
  have hS : va_S (zA N0) s.heap s.heap [] := va_S.rf
  have hl := lv_entry ([.int w]) (n := 1) (Nat.le_of_ble_eq_true rfl)
  rw [lg_entry_eq]
  generalize (lg_sl ([.int w]) ++ List.replicate (1 - (lg_sl ([.int w])).length) Slot.unset).toArray = ls at hl ⊢
  have hl : lv_has ls 1 [(0, .int w)] := hl
  refine lv_iload_n hx hb dX0_requireWren_0 rfl (lv_at hl 0 rfl) ?_
  refine lv_if_lt (tgt := 9) hx hb dX0_requireWren_1 (by decide) (fun c_1 => ?_) (fun c_1 => ?_)
  · obtain ⟨sa, hsa⟩ := hE.2.2.2.2.1
    have hat : ∀ w ∈ vx_atS RX0 79 xO ["java/lang/RuntimeException", "java/lang/Exception"], w.before _ s = true := vx_hat (fun w h9 => hts w (zx_in_X0_requireWren w h9)) zx_woO (hE.2.2.2.2.2.2.2.2.2.use)
    exact vx_throwS (cls := xO) (names := ["java/lang/RuntimeException", "java/lang/Exception"]) (ik := 75) (is := 104) (ic := 79) hx hb hst hown (by decide +kernel) (by decide +kernel) (hts (.classLink RX0 75 xO) (by decide +kernel)) (hts (.initialized xO) (by decide +kernel)) hsa hat zx_otO79 hE.2.1 hE.2.2.1 hS (hl.1.trans hml.symm) dX0_requireWren_9 dX0_requireWren_12 dX0_requireWren_13 dX0_requireWren_15 dX0_requireWren_18 (fun x9 h9 => (hnt x9 h9).elim) (Nat.le_of_ble_eq_true rfl) (Nat.le_of_ble_eq_true rfl) (Nat.le_of_ble_eq_true rfl) (Nat.le_of_ble_eq_true rfl) hlocks (fun t _ h8 h9 => ⟨(), trivial, ⟨rfl, h8, h9⟩, h8, fun q h6 _ => h9 q h6⟩) hS.2.2 (Nat.le_refl _) (Nat.le_refl _)
  · refine lv_iload_n hx hb dX0_requireWren_4 rfl (lv_at hl 0 rfl) ?_
    refine lv_iconst (v := 4) hx hb dX0_requireWren_5 (by decide) ?_
    refine lv_icmp_lt (tgt := 19) hx hb dX0_requireWren_6 (by decide) (fun c_6 => ?_) (fun c_6 => ?_)
    · exact absurd (zw_of (Int32.not_lt.mp c_1) c_6) hw
    · obtain ⟨sa, hsa⟩ := hE.2.2.2.2.1
      have hat : ∀ w ∈ vx_atS RX0 79 xO ["java/lang/RuntimeException", "java/lang/Exception"], w.before _ s = true := vx_hat (fun w h9 => hts w (zx_in_X0_requireWren w h9)) zx_woO (hE.2.2.2.2.2.2.2.2.2.use)
      exact vx_throwS (cls := xO) (names := ["java/lang/RuntimeException", "java/lang/Exception"]) (ik := 75) (is := 104) (ic := 79) hx hb hst hown (by decide +kernel) (by decide +kernel) (hts (.classLink RX0 75 xO) (by decide +kernel)) (hts (.initialized xO) (by decide +kernel)) hsa hat zx_otO79 hE.2.1 hE.2.2.1 hS (hl.1.trans hml.symm) dX0_requireWren_9 dX0_requireWren_12 dX0_requireWren_13 dX0_requireWren_15 dX0_requireWren_18 (fun x9 h9 => (hnt x9 h9).elim) (Nat.le_of_ble_eq_true rfl) (Nat.le_of_ble_eq_true rfl) (Nat.le_of_ble_eq_true rfl) (Nat.le_of_ble_eq_true rfl) hlocks (fun t _ h8 h9 => ⟨(), trivial, ⟨rfl, h8, h9⟩, h8, fun q h6 _ => h9 q h6⟩) hS.2.2 (Nat.le_refl _) (Nat.le_refl _)

set_option maxHeartbeats 4000000 in
set_option maxRecDepth 100000 in
theorem x_X0_requirePitch (l : Launch) (hst : l.stackTraces = false) (N0 : Nat) (Hx : Heap) (p : Int32) (hp : ¬ zp p) : vx_Met l yX0_requirePitch wsX0_requirePitch ({ frames := 7, cells := 1, slots := 6, locals := 104 }) (va_Pc [.int p] (fun U => U.heap = Hx ∧ zPe N0 U)) (va_Qv (fun (_ : Unit) => False) (fun _ _ => True) (zA N0)) (vx_X (fun (_ : Unit) => True) (fun E _ t => E = xI ∧ Hx.size ≤ t.heap.size ∧ ∀ q : Nat, q < Hx.size → t.heap[q]? = Hx[q]?) (zA N0)) 1 6 (zA N0) := by
  refine vx_ofW (cc := cX0_requirePitch) (maxL := 1) (ret := none) (by decide) rfl ?_
  intro pr e s m ag below meth cd s₁ B hml hnt hv
  obtain ⟨rfl, rfl, hN, hE⟩ := hv
  have hx := B.exec
  have hb := B.bytes
  have hts := atoms_spec (ws := wsX0_requirePitch) B.pre
  have hown : s.vm.findClass RX0 = some m.cls := findClass_of_methodNamed B.named
  have hlocks := B.notSynchronized
  have hS : va_S (zA N0) s.heap s.heap [] := va_S.rf
  have hl := lv_entry ([.int p]) (n := 1) (Nat.le_of_ble_eq_true rfl)
  rw [lg_entry_eq]
  generalize (lg_sl ([.int p]) ++ List.replicate (1 - (lg_sl ([.int p])).length) Slot.unset).toArray = ls at hl ⊢
  have hl : lv_has ls 1 [(0, .int p)] := hl
  refine lv_iload_n hx hb dX0_requirePitch_0 rfl (lv_at hl 0 rfl) ?_
  refine lv_iconst (v := 0) hx hb dX0_requirePitch_1 (by decide) ?_
  refine lv_sipush (v := 12000) hx hb dX0_requirePitch_2 (by decide) ?_
  refine vx_callv (vx_runS (As := [.int p, .int 0, .int 12000]) (rest := []) ⟨hx, hb, hml, hown, hts⟩ (x_X0_requireRange l hst N0 s.heap p 0 12000 hp) (va_cwS 3 hts gX0_requirePitch_X0_requireRange rfl rfl rfl (by decide +kernel) ⟨Nat.le_of_ble_eq_true rfl, Nat.le_of_ble_eq_true rfl⟩) ⟨zPx.blind, zPx.call hN hE hS⟩ rfl rfl hl.1 rfl (lv_room (Nat.le_of_ble_eq_true rfl)) dX0_requirePitch_5 ⟨Nat.le_refl _, Nat.le_refl _⟩) hS (fun _ _ h9 => h9) (fun _ h9 => h9) (fun _ _ h9 => h9) (fun E ce q9 u t H locs ht hvm hp hB hz1 hk1 hS hce hcv hcl => ?_) (fun u t H locs ht hvm hp hB hz1 hk1 hS => hp.elim)
  obtain ⟨rfl, hB2, hB3⟩ := hB
  exact vx_out (fun x9 h9 => (hnt x9 h9).elim) hlocks hce hcv hcl (fun t' h1 h2 => ⟨(), trivial, ⟨rfl, by rw [h1, ← ht]; exact hB2, fun q hq => by rw [h1, ← ht]; exact hB3 q hq⟩, hS.F h1⟩) hS.2.2 (Nat.le_refl _) (Nat.le_refl _)

set_option maxHeartbeats 4000000 in
set_option maxRecDepth 100000 in
theorem x_X0_setScale_1 (l : Launch) (hst : l.stackTraces = false) (N0 : Nat) (Hx : Heap) (h : Nat) (key : Int32) (md : Int32) (h1 : ¬ (0 ≤ key ∧ key ≤ 11)) : vx_Met l yX0_setScale wsX0_setScale ({ frames := 8, cells := 1, slots := 6, locals := 124 }) (va_Pc [.ref h, .int key, .int md] (fun U => U.heap = Hx ∧ zPe N0 U)) (va_Qi (fun (_ : Int32) (_ : Unit) => False) (fun _ _ => True) (zA N0)) (vx_X (fun (_ : Unit) => True) (fun E _ t => E = xI ∧ Hx.size ≤ t.heap.size ∧ ∀ q : Nat, q < Hx.size → t.heap[q]? = Hx[q]?) (zA N0)) 1 6 (zA N0) := by
  refine vx_ofW (cc := cX0_setScale) (maxL := 5) (ret := (some .int)) (by decide) rfl ?_
  intro pr e s m ag below meth cd s₁ B hml hnt hv
  obtain ⟨rfl, rfl, hN, hE⟩ := hv
  have hx := B.exec
  have hb := B.bytes
  have hts := atoms_spec (ws := wsX0_setScale) B.pre
  have hown : s.vm.findClass RX0 = some m.cls := findClass_of_methodNamed B.named
  have hlocks := B.notSynchronized
  have hS : va_S (zA N0) s.heap s.heap [] := va_S.rf
  have hl := lv_entry ([.ref h, .int key, .int md]) (n := 5) (Nat.le_of_ble_eq_true rfl)
  rw [lg_entry_eq]
  generalize (lg_sl ([.ref h, .int key, .int md]) ++ List.replicate (5 - (lg_sl ([.ref h, .int key, .int md])).length) Slot.unset).toArray = ls at hl ⊢
  have hl : lv_has ls 5 [(0, .ref h), (1, .int key), (2, .int md)] := hl
  refine lv_iload_n hx hb dX0_setScale_0 rfl (lv_at hl 1 rfl) ?_
  refine lv_iconst (v := 0) hx hb dX0_setScale_1 (by decide) ?_
  refine lv_bipush (v := 11) hx hb dX0_setScale_2 (by decide) ?_
  refine vx_callv (vx_runS (As := [.int key, .int 0, .int 11]) (rest := []) ⟨hx, hb, hml, hown, hts⟩ (x_X0_requireRange l hst N0 s.heap key 0 11 h1) (va_cwS 3 hts gX0_setScale_X0_requireRange rfl rfl rfl (by decide +kernel) ⟨Nat.le_of_ble_eq_true rfl, Nat.le_of_ble_eq_true rfl⟩) ⟨zPx.blind, zPx.call hN hE hS⟩ rfl rfl hl.1 rfl (lv_room (Nat.le_of_ble_eq_true rfl)) dX0_setScale_4 ⟨Nat.le_refl _, Nat.le_refl _⟩) hS (fun _ _ h9 => h9) (fun _ h9 => h9) (fun _ _ h9 => h9) (fun E ce q9 u t H locs ht hvm hp hB hz1 hk1 hS hce hcv hcl => ?_) (fun u t H locs ht hvm hp hB hz1 hk1 hS => hp.elim)
  obtain ⟨rfl, hB2, hB3⟩ := hB
  exact vx_out (fun x9 h9 => (hnt x9 h9).elim) hlocks hce hcv hcl (fun t' h1 h2 => ⟨(), trivial, ⟨rfl, by rw [h1, ← ht]; exact hB2, fun q hq => by rw [h1, ← ht]; exact hB3 q hq⟩, hS.F h1⟩) hS.2.2 (Nat.le_refl _) (Nat.le_refl _)

set_option maxHeartbeats 4000000 in
set_option maxRecDepth 100000 in
theorem x_X0_setScale_2 (l : Launch) (hst : l.stackTraces = false) (N0 : Nat) (Hx : Heap) (h : Nat) (key : Int32) (md : Int32) (h1 : 0 ≤ key ∧ key ≤ 11) (h2 : ¬ (0 ≤ md ∧ md ≤ 7)) : vx_Met l yX0_setScale wsX0_setScale ({ frames := 8, cells := 1, slots := 6, locals := 124 }) (va_Pc [.ref h, .int key, .int md] (fun U => U.heap = Hx ∧ zPe N0 U)) (va_Qi (fun (_ : Int32) (_ : Unit) => False) (fun _ _ => True) (zA N0)) (vx_X (fun (_ : Unit) => True) (fun E _ t => E = xI ∧ Hx.size ≤ t.heap.size ∧ ∀ q : Nat, q < Hx.size → t.heap[q]? = Hx[q]?) (zA N0)) 1 6 (zA N0) := by
  refine vx_ofW (cc := cX0_setScale) (maxL := 5) (ret := (some .int)) (by decide) rfl ?_
  intro pr e s m ag below meth cd s₁ B hml hnt hv
  obtain ⟨rfl, rfl, hN, hE⟩ := hv
  have hx := B.exec
  have hb := B.bytes
  have hts := atoms_spec (ws := wsX0_setScale) B.pre
  have hown : s.vm.findClass RX0 = some m.cls := findClass_of_methodNamed B.named
  have hlocks := B.notSynchronized
  have hS : va_S (zA N0) s.heap s.heap [] := va_S.rf
  have hl := lv_entry ([.ref h, .int key, .int md]) (n := 5) (Nat.le_of_ble_eq_true rfl)
  rw [lg_entry_eq]
  generalize (lg_sl ([.ref h, .int key, .int md]) ++ List.replicate (5 - (lg_sl ([.ref h, .int key, .int md])).length) Slot.unset).toArray = ls at hl ⊢
  have hl : lv_has ls 5 [(0, .ref h), (1, .int key), (2, .int md)] := hl
  refine lv_iload_n hx hb dX0_setScale_0 rfl (lv_at hl 1 rfl) ?_
  refine lv_iconst (v := 0) hx hb dX0_setScale_1 (by decide) ?_
  refine lv_bipush (v := 11) hx hb dX0_setScale_2 (by decide) ?_
  refine va_csv ((va_runS (As := [.int key, .int 0, .int 11]) (rest := []) ⟨hx, hb, hml, hown, hts⟩ (c_X0_requireRange_v l key 0 11 h1) (va_cwS 3 hts gX0_setScale_X0_requireRange rfl rfl rfl (by decide +kernel) ⟨Nat.le_of_ble_eq_true rfl, Nat.le_of_ble_eq_true rfl⟩) ⟨zT.blind, zT.call⟩ rfl rfl hl.1 rfl (lv_room (Nat.le_of_ble_eq_true rfl)) dX0_setScale_4 ⟨Nat.zero_le _, Nat.zero_le _⟩).run) (fun _ => ?_)
  refine lv_iload_n hx hb dX0_setScale_7 rfl (lv_at hl 2 rfl) ?_
  refine lv_iconst (v := 0) hx hb dX0_setScale_8 (by decide) ?_
  refine lv_bipush (v := 7) hx hb dX0_setScale_9 (by decide) ?_
  refine vx_callv (vx_runS (As := [.int md, .int 0, .int 7]) (rest := []) ⟨hx, hb, hml, hown, hts⟩ (x_X0_requireRange l hst N0 s.heap md 0 7 h2) (va_cwS 3 hts gX0_setScale_X0_requireRange rfl rfl rfl (by decide +kernel) ⟨Nat.le_of_ble_eq_true rfl, Nat.le_of_ble_eq_true rfl⟩) ⟨zPx.blind, zPx.call hN hE hS⟩ rfl rfl hl.1 rfl (lv_room (Nat.le_of_ble_eq_true rfl)) dX0_setScale_11 ⟨Nat.le_refl _, Nat.le_refl _⟩) hS (fun _ _ h9 => h9) (fun _ h9 => h9) (fun _ _ h9 => h9) (fun E ce q9 u t H locs ht hvm hp hB hz1 hk1 hS hce hcv hcl => ?_) (fun u t H locs ht hvm hp hB hz1 hk1 hS => hp.elim)
  obtain ⟨rfl, hB2, hB3⟩ := hB
  exact vx_out (fun x9 h9 => (hnt x9 h9).elim) hlocks hce hcv hcl (fun t' h1 h2 => ⟨(), trivial, ⟨rfl, by rw [h1, ← ht]; exact hB2, fun q hq => by rw [h1, ← ht]; exact hB3 q hq⟩, hS.F h1⟩) hS.2.2 (Nat.le_refl _) (Nat.le_refl _)

set_option maxHeartbeats 4000000 in
set_option maxRecDepth 100000 in
theorem x_X0_setNudging_1 (l : Launch) (hst : l.stackTraces = false) (N0 : Nat) (Hx : Heap) (h : Nat) (sp : Int32) (le : Int32) (gl : Int32) (h1 : ¬ (0 ≤ sp ∧ sp ≤ 100)) : vx_Met l yX0_setNudging wsX0_setNudging ({ frames := 8, cells := 1, slots := 6, locals := 124 }) (va_Pc [.ref h, .int sp, .int le, .int gl] (fun U => U.heap = Hx ∧ zPe N0 U)) (va_Qv (fun (_ : Unit) => False) (fun _ _ => True) (zA N0)) (vx_X (fun (_ : Unit) => True) (fun E _ t => E = xI ∧ Hx.size ≤ t.heap.size ∧ ∀ q : Nat, q < Hx.size → t.heap[q]? = Hx[q]?) (zA N0)) 1 6 (zA N0) := by
  refine vx_ofW (cc := cX0_setNudging) (maxL := 4) (ret := none) (by decide) rfl ?_
  intro pr e s m ag below meth cd s₁ B hml hnt hv
  obtain ⟨rfl, rfl, hN, hE⟩ := hv
  have hx := B.exec
  have hb := B.bytes
  have hts := atoms_spec (ws := wsX0_setNudging) B.pre
  have hown : s.vm.findClass RX0 = some m.cls := findClass_of_methodNamed B.named
  have hlocks := B.notSynchronized
  have hS : va_S (zA N0) s.heap s.heap [] := va_S.rf
  have hl := lv_entry ([.ref h, .int sp, .int le, .int gl]) (n := 4) (Nat.le_of_ble_eq_true rfl)
  rw [lg_entry_eq]
  generalize (lg_sl ([.ref h, .int sp, .int le, .int gl]) ++ List.replicate (4 - (lg_sl ([.ref h, .int sp, .int le, .int gl])).length) Slot.unset).toArray = ls at hl ⊢
  have hl : lv_has ls 4 [(0, .ref h), (1, .int sp), (2, .int le), (3, .int gl)] := hl
  refine lv_iload_n hx hb dX0_setNudging_0 rfl (lv_at hl 1 rfl) ?_
  refine lv_iconst (v := 0) hx hb dX0_setNudging_1 (by decide) ?_
  refine lv_bipush (v := 100) hx hb dX0_setNudging_2 (by decide) ?_
  refine vx_callv (vx_runS (As := [.int sp, .int 0, .int 100]) (rest := []) ⟨hx, hb, hml, hown, hts⟩ (x_X0_requireRange l hst N0 s.heap sp 0 100 h1) (va_cwS 3 hts gX0_setNudging_X0_requireRange rfl rfl rfl (by decide +kernel) ⟨Nat.le_of_ble_eq_true rfl, Nat.le_of_ble_eq_true rfl⟩) ⟨zPx.blind, zPx.call hN hE hS⟩ rfl rfl hl.1 rfl (lv_room (Nat.le_of_ble_eq_true rfl)) dX0_setNudging_4 ⟨Nat.le_refl _, Nat.le_refl _⟩) hS (fun _ _ h9 => h9) (fun _ h9 => h9) (fun _ _ h9 => h9) (fun E ce q9 u t H locs ht hvm hp hB hz1 hk1 hS hce hcv hcl => ?_) (fun u t H locs ht hvm hp hB hz1 hk1 hS => hp.elim)
  obtain ⟨rfl, hB2, hB3⟩ := hB
  exact vx_out (fun x9 h9 => (hnt x9 h9).elim) hlocks hce hcv hcl (fun t' h1 h2 => ⟨(), trivial, ⟨rfl, by rw [h1, ← ht]; exact hB2, fun q hq => by rw [h1, ← ht]; exact hB3 q hq⟩, hS.F h1⟩) hS.2.2 (Nat.le_refl _) (Nat.le_refl _)

set_option maxHeartbeats 4000000 in
set_option maxRecDepth 100000 in
theorem x_X0_setNudging_2 (l : Launch) (hst : l.stackTraces = false) (N0 : Nat) (Hx : Heap) (h : Nat) (sp : Int32) (le : Int32) (gl : Int32) (h1 : 0 ≤ sp ∧ sp ≤ 100) (h2 : ¬ (0 ≤ le ∧ le ≤ 600)) : vx_Met l yX0_setNudging wsX0_setNudging ({ frames := 8, cells := 1, slots := 6, locals := 124 }) (va_Pc [.ref h, .int sp, .int le, .int gl] (fun U => U.heap = Hx ∧ zPe N0 U)) (va_Qv (fun (_ : Unit) => False) (fun _ _ => True) (zA N0)) (vx_X (fun (_ : Unit) => True) (fun E _ t => E = xI ∧ Hx.size ≤ t.heap.size ∧ ∀ q : Nat, q < Hx.size → t.heap[q]? = Hx[q]?) (zA N0)) 1 6 (zA N0) := by
  refine vx_ofW (cc := cX0_setNudging) (maxL := 4) (ret := none) (by decide) rfl ?_
  intro pr e s m ag below meth cd s₁ B hml hnt hv
  obtain ⟨rfl, rfl, hN, hE⟩ := hv
  have hx := B.exec
  have hb := B.bytes
  have hts := atoms_spec (ws := wsX0_setNudging) B.pre
  have hown : s.vm.findClass RX0 = some m.cls := findClass_of_methodNamed B.named
  have hlocks := B.notSynchronized
  have hS : va_S (zA N0) s.heap s.heap [] := va_S.rf
  have hl := lv_entry ([.ref h, .int sp, .int le, .int gl]) (n := 4) (Nat.le_of_ble_eq_true rfl)
  rw [lg_entry_eq]
  generalize (lg_sl ([.ref h, .int sp, .int le, .int gl]) ++ List.replicate (4 - (lg_sl ([.ref h, .int sp, .int le, .int gl])).length) Slot.unset).toArray = ls at hl ⊢
  have hl : lv_has ls 4 [(0, .ref h), (1, .int sp), (2, .int le), (3, .int gl)] := hl
  refine lv_iload_n hx hb dX0_setNudging_0 rfl (lv_at hl 1 rfl) ?_
  refine lv_iconst (v := 0) hx hb dX0_setNudging_1 (by decide) ?_
  refine lv_bipush (v := 100) hx hb dX0_setNudging_2 (by decide) ?_
  refine va_csv ((va_runS (As := [.int sp, .int 0, .int 100]) (rest := []) ⟨hx, hb, hml, hown, hts⟩ (c_X0_requireRange_v l sp 0 100 h1) (va_cwS 3 hts gX0_setNudging_X0_requireRange rfl rfl rfl (by decide +kernel) ⟨Nat.le_of_ble_eq_true rfl, Nat.le_of_ble_eq_true rfl⟩) ⟨zT.blind, zT.call⟩ rfl rfl hl.1 rfl (lv_room (Nat.le_of_ble_eq_true rfl)) dX0_setNudging_4 ⟨Nat.zero_le _, Nat.zero_le _⟩).run) (fun _ => ?_)
  refine lv_iload_n hx hb dX0_setNudging_7 rfl (lv_at hl 2 rfl) ?_
  refine lv_iconst (v := 0) hx hb dX0_setNudging_8 (by decide) ?_
  refine lv_sipush (v := 600) hx hb dX0_setNudging_9 (by decide) ?_
  refine vx_callv (vx_runS (As := [.int le, .int 0, .int 600]) (rest := []) ⟨hx, hb, hml, hown, hts⟩ (x_X0_requireRange l hst N0 s.heap le 0 600 h2) (va_cwS 3 hts gX0_setNudging_X0_requireRange rfl rfl rfl (by decide +kernel) ⟨Nat.le_of_ble_eq_true rfl, Nat.le_of_ble_eq_true rfl⟩) ⟨zPx.blind, zPx.call hN hE hS⟩ rfl rfl hl.1 rfl (lv_room (Nat.le_of_ble_eq_true rfl)) dX0_setNudging_12 ⟨Nat.le_refl _, Nat.le_refl _⟩) hS (fun _ _ h9 => h9) (fun _ h9 => h9) (fun _ _ h9 => h9) (fun E ce q9 u t H locs ht hvm hp hB hz1 hk1 hS hce hcv hcl => ?_) (fun u t H locs ht hvm hp hB hz1 hk1 hS => hp.elim)
  obtain ⟨rfl, hB2, hB3⟩ := hB
  exact vx_out (fun x9 h9 => (hnt x9 h9).elim) hlocks hce hcv hcl (fun t' h1 h2 => ⟨(), trivial, ⟨rfl, by rw [h1, ← ht]; exact hB2, fun q hq => by rw [h1, ← ht]; exact hB3 q hq⟩, hS.F h1⟩) hS.2.2 (Nat.le_refl _) (Nat.le_refl _)

set_option maxHeartbeats 4000000 in
set_option maxRecDepth 100000 in
theorem x_X0_setNudging_3 (l : Launch) (hst : l.stackTraces = false) (N0 : Nat) (Hx : Heap) (h : Nat) (sp : Int32) (le : Int32) (gl : Int32) (h1 : 0 ≤ sp ∧ sp ≤ 100) (h2 : 0 ≤ le ∧ le ≤ 600) (h3 : ¬ (0 ≤ gl ∧ gl ≤ 12000)) : vx_Met l yX0_setNudging wsX0_setNudging ({ frames := 8, cells := 1, slots := 6, locals := 124 }) (va_Pc [.ref h, .int sp, .int le, .int gl] (fun U => U.heap = Hx ∧ zPe N0 U)) (va_Qv (fun (_ : Unit) => False) (fun _ _ => True) (zA N0)) (vx_X (fun (_ : Unit) => True) (fun E _ t => E = xI ∧ Hx.size ≤ t.heap.size ∧ ∀ q : Nat, q < Hx.size → t.heap[q]? = Hx[q]?) (zA N0)) 1 6 (zA N0) := by
  refine vx_ofW (cc := cX0_setNudging) (maxL := 4) (ret := none) (by decide) rfl ?_
  intro pr e s m ag below meth cd s₁ B hml hnt hv
  obtain ⟨rfl, rfl, hN, hE⟩ := hv
  have hx := B.exec
  have hb := B.bytes
  have hts := atoms_spec (ws := wsX0_setNudging) B.pre
  have hown : s.vm.findClass RX0 = some m.cls := findClass_of_methodNamed B.named
  have hlocks := B.notSynchronized
  have hS : va_S (zA N0) s.heap s.heap [] := va_S.rf
  have hl := lv_entry ([.ref h, .int sp, .int le, .int gl]) (n := 4) (Nat.le_of_ble_eq_true rfl)
  rw [lg_entry_eq]
  generalize (lg_sl ([.ref h, .int sp, .int le, .int gl]) ++ List.replicate (4 - (lg_sl ([.ref h, .int sp, .int le, .int gl])).length) Slot.unset).toArray = ls at hl ⊢
  have hl : lv_has ls 4 [(0, .ref h), (1, .int sp), (2, .int le), (3, .int gl)] := hl
  refine lv_iload_n hx hb dX0_setNudging_0 rfl (lv_at hl 1 rfl) ?_
  refine lv_iconst (v := 0) hx hb dX0_setNudging_1 (by decide) ?_
  refine lv_bipush (v := 100) hx hb dX0_setNudging_2 (by decide) ?_
  refine va_csv ((va_runS (As := [.int sp, .int 0, .int 100]) (rest := []) ⟨hx, hb, hml, hown, hts⟩ (c_X0_requireRange_v l sp 0 100 h1) (va_cwS 3 hts gX0_setNudging_X0_requireRange rfl rfl rfl (by decide +kernel) ⟨Nat.le_of_ble_eq_true rfl, Nat.le_of_ble_eq_true rfl⟩) ⟨zT.blind, zT.call⟩ rfl rfl hl.1 rfl (lv_room (Nat.le_of_ble_eq_true rfl)) dX0_setNudging_4 ⟨Nat.zero_le _, Nat.zero_le _⟩).run) (fun _ => ?_)
  refine lv_iload_n hx hb dX0_setNudging_7 rfl (lv_at hl 2 rfl) ?_
  refine lv_iconst (v := 0) hx hb dX0_setNudging_8 (by decide) ?_
  refine lv_sipush (v := 600) hx hb dX0_setNudging_9 (by decide) ?_
  refine va_csv ((va_runS (As := [.int le, .int 0, .int 600]) (rest := []) ⟨hx, hb, hml, hown, hts⟩ (c_X0_requireRange_v l le 0 600 h2) (va_cwS 3 hts gX0_setNudging_X0_requireRange rfl rfl rfl (by decide +kernel) ⟨Nat.le_of_ble_eq_true rfl, Nat.le_of_ble_eq_true rfl⟩) ⟨zT.blind, zT.call⟩ rfl rfl hl.1 rfl (lv_room (Nat.le_of_ble_eq_true rfl)) dX0_setNudging_12 ⟨Nat.zero_le _, Nat.zero_le _⟩).run) (fun _ => ?_)
  refine lv_iload_n hx hb dX0_setNudging_15 rfl (lv_at hl 3 rfl) ?_
  refine lv_iconst (v := 0) hx hb dX0_setNudging_16 (by decide) ?_
  refine lv_sipush (v := 12000) hx hb dX0_setNudging_17 (by decide) ?_
  refine vx_callv (vx_runS (As := [.int gl, .int 0, .int 12000]) (rest := []) ⟨hx, hb, hml, hown, hts⟩ (x_X0_requireRange l hst N0 s.heap gl 0 12000 h3) (va_cwS 3 hts gX0_setNudging_X0_requireRange rfl rfl rfl (by decide +kernel) ⟨Nat.le_of_ble_eq_true rfl, Nat.le_of_ble_eq_true rfl⟩) ⟨zPx.blind, zPx.call hN hE hS⟩ rfl rfl hl.1 rfl (lv_room (Nat.le_of_ble_eq_true rfl)) dX0_setNudging_20 ⟨Nat.le_refl _, Nat.le_refl _⟩) hS (fun _ _ h9 => h9) (fun _ h9 => h9) (fun _ _ h9 => h9) (fun E ce q9 u t H locs ht hvm hp hB hz1 hk1 hS hce hcv hcl => ?_) (fun u t H locs ht hvm hp hB hz1 hk1 hS => hp.elim)
  obtain ⟨rfl, hB2, hB3⟩ := hB
  exact vx_out (fun x9 h9 => (hnt x9 h9).elim) hlocks hce hcv hcl (fun t' h1 h2 => ⟨(), trivial, ⟨rfl, by rw [h1, ← ht]; exact hB2, fun q hq => by rw [h1, ← ht]; exact hB3 q hq⟩, hS.F h1⟩) hS.2.2 (Nat.le_refl _) (Nat.le_refl _)

set_option maxHeartbeats 4000000 in
set_option maxRecDepth 100000 in
theorem x_X0_sing_1 (l : Launch) (hst : l.stackTraces = false) (N0 : Nat) (Hx : Heap) (h : Nat) (w : Int32) (p : Int32) (hw : ¬ (zw w)) : vx_Met l yX0_sing wsX0_sing ({ frames := 8, cells := 1, slots := 6, locals := 124 }) (va_Pc [.ref h, .int w, .int p] (fun U => U.heap = Hx ∧ zPe N0 U)) (va_Qi (fun (_ : Int32) (_ : Unit) => False) (fun _ _ => True) (zA N0)) (vx_X (fun (_ : Unit) => True) (fun E _ t => E = xO ∧ Hx.size ≤ t.heap.size ∧ ∀ q : Nat, q < Hx.size → t.heap[q]? = Hx[q]?) (zA N0)) 1 6 (zA N0) := by
  refine vx_ofW (cc := cX0_sing) (maxL := 3) (ret := (some .int)) (by decide) rfl ?_
  intro pr e s m ag below meth cd s₁ B hml hnt hv
  obtain ⟨rfl, rfl, hN, hE⟩ := hv
  have hx := B.exec
  have hb := B.bytes
  have hts := atoms_spec (ws := wsX0_sing) B.pre
  have hown : s.vm.findClass RX0 = some m.cls := findClass_of_methodNamed B.named
  have hlocks := B.notSynchronized
  have hS : va_S (zA N0) s.heap s.heap [] := va_S.rf
  have hl := lv_entry ([.ref h, .int w, .int p]) (n := 3) (Nat.le_of_ble_eq_true rfl)
  rw [lg_entry_eq]
  generalize (lg_sl ([.ref h, .int w, .int p]) ++ List.replicate (3 - (lg_sl ([.ref h, .int w, .int p])).length) Slot.unset).toArray = ls at hl ⊢
  have hl : lv_has ls 3 [(0, .ref h), (1, .int w), (2, .int p)] := hl
  refine lv_iload_n hx hb dX0_sing_0 rfl (lv_at hl 1 rfl) ?_
  refine vx_callv (vx_runS (As := [.int w]) (rest := []) ⟨hx, hb, hml, hown, hts⟩ (x_X0_requireWren l hst N0 s.heap w hw) (va_cwS 1 hts gX0_sing_X0_requireWren rfl rfl rfl (by decide +kernel) ⟨Nat.le_of_ble_eq_true rfl, Nat.le_of_ble_eq_true rfl⟩) ⟨zPx.blind, zPx.call hN hE hS⟩ rfl rfl hl.1 rfl (lv_room (Nat.le_of_ble_eq_true rfl)) dX0_sing_1 ⟨Nat.le_refl _, Nat.le_refl _⟩) hS (fun _ _ h9 => h9) (fun _ h9 => h9) (fun _ _ h9 => h9) (fun E ce q9 u t H locs ht hvm hp hB hz1 hk1 hS hce hcv hcl => ?_) (fun u t H locs ht hvm hp hB hz1 hk1 hS => hp.elim)
  obtain ⟨rfl, hB2, hB3⟩ := hB
  exact vx_out (fun x9 h9 => (hnt x9 h9).elim) hlocks hce hcv hcl (fun t' h1 h2 => ⟨(), trivial, ⟨rfl, by rw [h1, ← ht]; exact hB2, fun q hq => by rw [h1, ← ht]; exact hB3 q hq⟩, hS.F h1⟩) hS.2.2 (Nat.le_refl _) (Nat.le_refl _)

set_option maxHeartbeats 4000000 in
set_option maxRecDepth 100000 in
theorem x_X0_sing_2 (l : Launch) (hst : l.stackTraces = false) (N0 : Nat) (Hx : Heap) (h : Nat) (w : Int32) (p : Int32) (hw : zw w) (hp : ¬ (zp p)) : vx_Met l yX0_sing wsX0_sing ({ frames := 8, cells := 1, slots := 6, locals := 124 }) (va_Pc [.ref h, .int w, .int p] (fun U => U.heap = Hx ∧ zPe N0 U)) (va_Qi (fun (_ : Int32) (_ : Unit) => False) (fun _ _ => True) (zA N0)) (vx_X (fun (_ : Unit) => True) (fun E _ t => E = xI ∧ Hx.size ≤ t.heap.size ∧ ∀ q : Nat, q < Hx.size → t.heap[q]? = Hx[q]?) (zA N0)) 1 6 (zA N0) := by
  refine vx_ofW (cc := cX0_sing) (maxL := 3) (ret := (some .int)) (by decide) rfl ?_
  intro pr e s m ag below meth cd s₁ B hml hnt hv
  obtain ⟨rfl, rfl, hN, hE⟩ := hv
  have hx := B.exec
  have hb := B.bytes
  have hts := atoms_spec (ws := wsX0_sing) B.pre
  have hown : s.vm.findClass RX0 = some m.cls := findClass_of_methodNamed B.named
  have hlocks := B.notSynchronized
  have hS : va_S (zA N0) s.heap s.heap [] := va_S.rf
  have hl := lv_entry ([.ref h, .int w, .int p]) (n := 3) (Nat.le_of_ble_eq_true rfl)
  rw [lg_entry_eq]
  generalize (lg_sl ([.ref h, .int w, .int p]) ++ List.replicate (3 - (lg_sl ([.ref h, .int w, .int p])).length) Slot.unset).toArray = ls at hl ⊢
  have hl : lv_has ls 3 [(0, .ref h), (1, .int w), (2, .int p)] := hl
  refine lv_iload_n hx hb dX0_sing_0 rfl (lv_at hl 1 rfl) ?_
  refine va_csv ((va_runS (As := [.int w]) (rest := []) ⟨hx, hb, hml, hown, hts⟩ (c_X0_requireWren_v l w hw) (va_cwS 1 hts gX0_sing_X0_requireWren rfl rfl rfl (by decide +kernel) ⟨Nat.le_of_ble_eq_true rfl, Nat.le_of_ble_eq_true rfl⟩) ⟨zT.blind, zT.call⟩ rfl rfl hl.1 rfl (lv_room (Nat.le_of_ble_eq_true rfl)) dX0_sing_1 ⟨Nat.zero_le _, Nat.zero_le _⟩).run) (fun _ => ?_)
  refine lv_iload_n hx hb dX0_sing_4 rfl (lv_at hl 2 rfl) ?_
  refine vx_callv (vx_runS (As := [.int p]) (rest := []) ⟨hx, hb, hml, hown, hts⟩ (x_X0_requirePitch l hst N0 s.heap p hp) (va_cwS 1 hts gX0_sing_X0_requirePitch rfl rfl rfl (by decide +kernel) ⟨Nat.le_of_ble_eq_true rfl, Nat.le_of_ble_eq_true rfl⟩) ⟨zPx.blind, zPx.call hN hE hS⟩ rfl rfl hl.1 rfl (lv_room (Nat.le_of_ble_eq_true rfl)) dX0_sing_5 ⟨Nat.le_refl _, Nat.le_refl _⟩) hS (fun _ _ h9 => h9) (fun _ h9 => h9) (fun _ _ h9 => h9) (fun E ce q9 u t H locs ht hvm hp hB hz1 hk1 hS hce hcv hcl => ?_) (fun u t H locs ht hvm hp hB hz1 hk1 hS => hp.elim)
  obtain ⟨rfl, hB2, hB3⟩ := hB
  exact vx_out (fun x9 h9 => (hnt x9 h9).elim) hlocks hce hcv hcl (fun t' h1 h2 => ⟨(), trivial, ⟨rfl, by rw [h1, ← ht]; exact hB2, fun q hq => by rw [h1, ← ht]; exact hB3 q hq⟩, hS.F h1⟩) hS.2.2 (Nat.le_refl _) (Nat.le_refl _)

set_option maxHeartbeats 4000000 in
set_option maxRecDepth 100000 in
theorem x_X0_slide_1 (l : Launch) (hst : l.stackTraces = false) (N0 : Nat) (Hx : Heap) (h : Nat) (w : Int32) (a : Int32) (b : Int32) (f : Int32) (hw : ¬ (zw w)) : vx_Met l yX0_slide wsX0_slide ({ frames := 8, cells := 1, slots := 6, locals := 124 }) (va_Pc [.ref h, .int w, .int a, .int b, .int f] (fun U => U.heap = Hx ∧ zPe N0 U)) (va_Qi (fun (_ : Int32) (_ : Unit) => False) (fun _ _ => True) (zA N0)) (vx_X (fun (_ : Unit) => True) (fun E _ t => E = xO ∧ Hx.size ≤ t.heap.size ∧ ∀ q : Nat, q < Hx.size → t.heap[q]? = Hx[q]?) (zA N0)) 1 6 (zA N0) := by
  refine vx_ofW (cc := cX0_slide) (maxL := 7) (ret := (some .int)) (by decide) rfl ?_
  intro pr e s m ag below meth cd s₁ B hml hnt hv
  obtain ⟨rfl, rfl, hN, hE⟩ := hv
  have hx := B.exec
  have hb := B.bytes
  have hts := atoms_spec (ws := wsX0_slide) B.pre
  have hown : s.vm.findClass RX0 = some m.cls := findClass_of_methodNamed B.named
  have hlocks := B.notSynchronized
  have hS : va_S (zA N0) s.heap s.heap [] := va_S.rf
  have hl := lv_entry ([.ref h, .int w, .int a, .int b, .int f]) (n := 7) (Nat.le_of_ble_eq_true rfl)
  rw [lg_entry_eq]
  generalize (lg_sl ([.ref h, .int w, .int a, .int b, .int f]) ++ List.replicate (7 - (lg_sl ([.ref h, .int w, .int a, .int b, .int f])).length) Slot.unset).toArray = ls at hl ⊢
  have hl : lv_has ls 7 [(0, .ref h), (1, .int w), (2, .int a), (3, .int b), (4, .int f)] := hl
  refine lv_iload_n hx hb dX0_slide_0 rfl (lv_at hl 1 rfl) ?_
  refine vx_callv (vx_runS (As := [.int w]) (rest := []) ⟨hx, hb, hml, hown, hts⟩ (x_X0_requireWren l hst N0 s.heap w hw) (va_cwS 1 hts gX0_slide_X0_requireWren rfl rfl rfl (by decide +kernel) ⟨Nat.le_of_ble_eq_true rfl, Nat.le_of_ble_eq_true rfl⟩) ⟨zPx.blind, zPx.call hN hE hS⟩ rfl rfl hl.1 rfl (lv_room (Nat.le_of_ble_eq_true rfl)) dX0_slide_1 ⟨Nat.le_refl _, Nat.le_refl _⟩) hS (fun _ _ h9 => h9) (fun _ h9 => h9) (fun _ _ h9 => h9) (fun E ce q9 u t H locs ht hvm hp hB hz1 hk1 hS hce hcv hcl => ?_) (fun u t H locs ht hvm hp hB hz1 hk1 hS => hp.elim)
  obtain ⟨rfl, hB2, hB3⟩ := hB
  exact vx_out (fun x9 h9 => (hnt x9 h9).elim) hlocks hce hcv hcl (fun t' h1 h2 => ⟨(), trivial, ⟨rfl, by rw [h1, ← ht]; exact hB2, fun q hq => by rw [h1, ← ht]; exact hB3 q hq⟩, hS.F h1⟩) hS.2.2 (Nat.le_refl _) (Nat.le_refl _)

set_option maxHeartbeats 4000000 in
set_option maxRecDepth 100000 in
theorem x_X0_slide_2 (l : Launch) (hst : l.stackTraces = false) (N0 : Nat) (Hx : Heap) (h : Nat) (w : Int32) (a : Int32) (b : Int32) (f : Int32) (hw : zw w) (h2 : ¬ (zp a)) : vx_Met l yX0_slide wsX0_slide ({ frames := 8, cells := 1, slots := 6, locals := 124 }) (va_Pc [.ref h, .int w, .int a, .int b, .int f] (fun U => U.heap = Hx ∧ zPe N0 U)) (va_Qi (fun (_ : Int32) (_ : Unit) => False) (fun _ _ => True) (zA N0)) (vx_X (fun (_ : Unit) => True) (fun E _ t => E = xI ∧ Hx.size ≤ t.heap.size ∧ ∀ q : Nat, q < Hx.size → t.heap[q]? = Hx[q]?) (zA N0)) 1 6 (zA N0) := by
  refine vx_ofW (cc := cX0_slide) (maxL := 7) (ret := (some .int)) (by decide) rfl ?_
  intro pr e s m ag below meth cd s₁ B hml hnt hv
  obtain ⟨rfl, rfl, hN, hE⟩ := hv
  have hx := B.exec
  have hb := B.bytes
  have hts := atoms_spec (ws := wsX0_slide) B.pre
  have hown : s.vm.findClass RX0 = some m.cls := findClass_of_methodNamed B.named
  have hlocks := B.notSynchronized
  have hS : va_S (zA N0) s.heap s.heap [] := va_S.rf
  have hl := lv_entry ([.ref h, .int w, .int a, .int b, .int f]) (n := 7) (Nat.le_of_ble_eq_true rfl)
  rw [lg_entry_eq]
  generalize (lg_sl ([.ref h, .int w, .int a, .int b, .int f]) ++ List.replicate (7 - (lg_sl ([.ref h, .int w, .int a, .int b, .int f])).length) Slot.unset).toArray = ls at hl ⊢
  have hl : lv_has ls 7 [(0, .ref h), (1, .int w), (2, .int a), (3, .int b), (4, .int f)] := hl
  refine lv_iload_n hx hb dX0_slide_0 rfl (lv_at hl 1 rfl) ?_
  refine va_csv ((va_runS (As := [.int w]) (rest := []) ⟨hx, hb, hml, hown, hts⟩ (c_X0_requireWren_v l w hw) (va_cwS 1 hts gX0_slide_X0_requireWren rfl rfl rfl (by decide +kernel) ⟨Nat.le_of_ble_eq_true rfl, Nat.le_of_ble_eq_true rfl⟩) ⟨zT.blind, zT.call⟩ rfl rfl hl.1 rfl (lv_room (Nat.le_of_ble_eq_true rfl)) dX0_slide_1 ⟨Nat.zero_le _, Nat.zero_le _⟩).run) (fun _ => ?_)
  refine lv_iload_n hx hb dX0_slide_4 rfl (lv_at hl 2 rfl) ?_
  refine vx_callv (vx_runS (As := [.int a]) (rest := []) ⟨hx, hb, hml, hown, hts⟩ (x_X0_requirePitch l hst N0 s.heap a h2) (va_cwS 1 hts gX0_slide_X0_requirePitch rfl rfl rfl (by decide +kernel) ⟨Nat.le_of_ble_eq_true rfl, Nat.le_of_ble_eq_true rfl⟩) ⟨zPx.blind, zPx.call hN hE hS⟩ rfl rfl hl.1 rfl (lv_room (Nat.le_of_ble_eq_true rfl)) dX0_slide_5 ⟨Nat.le_refl _, Nat.le_refl _⟩) hS (fun _ _ h9 => h9) (fun _ h9 => h9) (fun _ _ h9 => h9) (fun E ce q9 u t H locs ht hvm hp hB hz1 hk1 hS hce hcv hcl => ?_) (fun u t H locs ht hvm hp hB hz1 hk1 hS => hp.elim)
  obtain ⟨rfl, hB2, hB3⟩ := hB
  exact vx_out (fun x9 h9 => (hnt x9 h9).elim) hlocks hce hcv hcl (fun t' h1 h2 => ⟨(), trivial, ⟨rfl, by rw [h1, ← ht]; exact hB2, fun q hq => by rw [h1, ← ht]; exact hB3 q hq⟩, hS.F h1⟩) hS.2.2 (Nat.le_refl _) (Nat.le_refl _)

set_option maxHeartbeats 4000000 in
set_option maxRecDepth 100000 in
theorem x_X0_slide_3 (l : Launch) (hst : l.stackTraces = false) (N0 : Nat) (Hx : Heap) (h : Nat) (w : Int32) (a : Int32) (b : Int32) (f : Int32) (hw : zw w) (h2 : zp a) (h3 : ¬ (zp b)) : vx_Met l yX0_slide wsX0_slide ({ frames := 8, cells := 1, slots := 6, locals := 124 }) (va_Pc [.ref h, .int w, .int a, .int b, .int f] (fun U => U.heap = Hx ∧ zPe N0 U)) (va_Qi (fun (_ : Int32) (_ : Unit) => False) (fun _ _ => True) (zA N0)) (vx_X (fun (_ : Unit) => True) (fun E _ t => E = xI ∧ Hx.size ≤ t.heap.size ∧ ∀ q : Nat, q < Hx.size → t.heap[q]? = Hx[q]?) (zA N0)) 1 6 (zA N0) := by
  refine vx_ofW (cc := cX0_slide) (maxL := 7) (ret := (some .int)) (by decide) rfl ?_
  intro pr e s m ag below meth cd s₁ B hml hnt hv
  obtain ⟨rfl, rfl, hN, hE⟩ := hv
  have hx := B.exec
  have hb := B.bytes
  have hts := atoms_spec (ws := wsX0_slide) B.pre
  have hown : s.vm.findClass RX0 = some m.cls := findClass_of_methodNamed B.named
  have hlocks := B.notSynchronized
  have hS : va_S (zA N0) s.heap s.heap [] := va_S.rf
  have hl := lv_entry ([.ref h, .int w, .int a, .int b, .int f]) (n := 7) (Nat.le_of_ble_eq_true rfl)
  rw [lg_entry_eq]
  generalize (lg_sl ([.ref h, .int w, .int a, .int b, .int f]) ++ List.replicate (7 - (lg_sl ([.ref h, .int w, .int a, .int b, .int f])).length) Slot.unset).toArray = ls at hl ⊢
  have hl : lv_has ls 7 [(0, .ref h), (1, .int w), (2, .int a), (3, .int b), (4, .int f)] := hl
  refine lv_iload_n hx hb dX0_slide_0 rfl (lv_at hl 1 rfl) ?_
  refine va_csv ((va_runS (As := [.int w]) (rest := []) ⟨hx, hb, hml, hown, hts⟩ (c_X0_requireWren_v l w hw) (va_cwS 1 hts gX0_slide_X0_requireWren rfl rfl rfl (by decide +kernel) ⟨Nat.le_of_ble_eq_true rfl, Nat.le_of_ble_eq_true rfl⟩) ⟨zT.blind, zT.call⟩ rfl rfl hl.1 rfl (lv_room (Nat.le_of_ble_eq_true rfl)) dX0_slide_1 ⟨Nat.zero_le _, Nat.zero_le _⟩).run) (fun _ => ?_)
  refine lv_iload_n hx hb dX0_slide_4 rfl (lv_at hl 2 rfl) ?_
  refine va_csv ((va_runS (As := [.int a]) (rest := []) ⟨hx, hb, hml, hown, hts⟩ (c_X0_requirePitch_v l a h2) (va_cwS 1 hts gX0_slide_X0_requirePitch rfl rfl rfl (by decide +kernel) ⟨Nat.le_of_ble_eq_true rfl, Nat.le_of_ble_eq_true rfl⟩) ⟨zT.blind, zT.call⟩ rfl rfl hl.1 rfl (lv_room (Nat.le_of_ble_eq_true rfl)) dX0_slide_5 ⟨Nat.zero_le _, Nat.zero_le _⟩).run) (fun _ => ?_)
  refine lv_iload_n hx hb dX0_slide_8 rfl (lv_at hl 3 rfl) ?_
  refine vx_callv (vx_runS (As := [.int b]) (rest := []) ⟨hx, hb, hml, hown, hts⟩ (x_X0_requirePitch l hst N0 s.heap b h3) (va_cwS 1 hts gX0_slide_X0_requirePitch rfl rfl rfl (by decide +kernel) ⟨Nat.le_of_ble_eq_true rfl, Nat.le_of_ble_eq_true rfl⟩) ⟨zPx.blind, zPx.call hN hE hS⟩ rfl rfl hl.1 rfl (lv_room (Nat.le_of_ble_eq_true rfl)) dX0_slide_9 ⟨Nat.le_refl _, Nat.le_refl _⟩) hS (fun _ _ h9 => h9) (fun _ h9 => h9) (fun _ _ h9 => h9) (fun E ce q9 u t H locs ht hvm hp hB hz1 hk1 hS hce hcv hcl => ?_) (fun u t H locs ht hvm hp hB hz1 hk1 hS => hp.elim)
  obtain ⟨rfl, hB2, hB3⟩ := hB
  exact vx_out (fun x9 h9 => (hnt x9 h9).elim) hlocks hce hcv hcl (fun t' h1 h2 => ⟨(), trivial, ⟨rfl, by rw [h1, ← ht]; exact hB2, fun q hq => by rw [h1, ← ht]; exact hB3 q hq⟩, hS.F h1⟩) hS.2.2 (Nat.le_refl _) (Nat.le_refl _)

set_option maxHeartbeats 4000000 in
set_option maxRecDepth 100000 in
theorem x_X0_slide_4 (l : Launch) (hst : l.stackTraces = false) (N0 : Nat) (Hx : Heap) (h : Nat) (w : Int32) (a : Int32) (b : Int32) (f : Int32) (hw : zw w) (h2 : zp a) (h3 : zp b) (h4 : ¬ (2 ≤ f ∧ f ≤ 50)) : vx_Met l yX0_slide wsX0_slide ({ frames := 8, cells := 1, slots := 6, locals := 124 }) (va_Pc [.ref h, .int w, .int a, .int b, .int f] (fun U => U.heap = Hx ∧ zPe N0 U)) (va_Qi (fun (_ : Int32) (_ : Unit) => False) (fun _ _ => True) (zA N0)) (vx_X (fun (_ : Unit) => True) (fun E _ t => E = xI ∧ Hx.size ≤ t.heap.size ∧ ∀ q : Nat, q < Hx.size → t.heap[q]? = Hx[q]?) (zA N0)) 1 6 (zA N0) := by
  refine vx_ofW (cc := cX0_slide) (maxL := 7) (ret := (some .int)) (by decide) rfl ?_
  intro pr e s m ag below meth cd s₁ B hml hnt hv
  obtain ⟨rfl, rfl, hN, hE⟩ := hv
  have hx := B.exec
  have hb := B.bytes
  have hts := atoms_spec (ws := wsX0_slide) B.pre
  have hown : s.vm.findClass RX0 = some m.cls := findClass_of_methodNamed B.named
  have hlocks := B.notSynchronized
  have hS : va_S (zA N0) s.heap s.heap [] := va_S.rf
  have hl := lv_entry ([.ref h, .int w, .int a, .int b, .int f]) (n := 7) (Nat.le_of_ble_eq_true rfl)
  rw [lg_entry_eq]
  generalize (lg_sl ([.ref h, .int w, .int a, .int b, .int f]) ++ List.replicate (7 - (lg_sl ([.ref h, .int w, .int a, .int b, .int f])).length) Slot.unset).toArray = ls at hl ⊢
  have hl : lv_has ls 7 [(0, .ref h), (1, .int w), (2, .int a), (3, .int b), (4, .int f)] := hl
  refine lv_iload_n hx hb dX0_slide_0 rfl (lv_at hl 1 rfl) ?_
  refine va_csv ((va_runS (As := [.int w]) (rest := []) ⟨hx, hb, hml, hown, hts⟩ (c_X0_requireWren_v l w hw) (va_cwS 1 hts gX0_slide_X0_requireWren rfl rfl rfl (by decide +kernel) ⟨Nat.le_of_ble_eq_true rfl, Nat.le_of_ble_eq_true rfl⟩) ⟨zT.blind, zT.call⟩ rfl rfl hl.1 rfl (lv_room (Nat.le_of_ble_eq_true rfl)) dX0_slide_1 ⟨Nat.zero_le _, Nat.zero_le _⟩).run) (fun _ => ?_)
  refine lv_iload_n hx hb dX0_slide_4 rfl (lv_at hl 2 rfl) ?_
  refine va_csv ((va_runS (As := [.int a]) (rest := []) ⟨hx, hb, hml, hown, hts⟩ (c_X0_requirePitch_v l a h2) (va_cwS 1 hts gX0_slide_X0_requirePitch rfl rfl rfl (by decide +kernel) ⟨Nat.le_of_ble_eq_true rfl, Nat.le_of_ble_eq_true rfl⟩) ⟨zT.blind, zT.call⟩ rfl rfl hl.1 rfl (lv_room (Nat.le_of_ble_eq_true rfl)) dX0_slide_5 ⟨Nat.zero_le _, Nat.zero_le _⟩).run) (fun _ => ?_)
  refine lv_iload_n hx hb dX0_slide_8 rfl (lv_at hl 3 rfl) ?_
  refine va_csv ((va_runS (As := [.int b]) (rest := []) ⟨hx, hb, hml, hown, hts⟩ (c_X0_requirePitch_v l b h3) (va_cwS 1 hts gX0_slide_X0_requirePitch rfl rfl rfl (by decide +kernel) ⟨Nat.le_of_ble_eq_true rfl, Nat.le_of_ble_eq_true rfl⟩) ⟨zT.blind, zT.call⟩ rfl rfl hl.1 rfl (lv_room (Nat.le_of_ble_eq_true rfl)) dX0_slide_9 ⟨Nat.zero_le _, Nat.zero_le _⟩).run) (fun _ => ?_)
  refine lv_iload hx hb dX0_slide_12 (lv_at hl 4 rfl) ?_
  refine lv_iconst (v := 2) hx hb dX0_slide_14 (by decide) ?_
  refine lv_bipush (v := 50) hx hb dX0_slide_15 (by decide) ?_
  refine vx_callv (vx_runS (As := [.int f, .int 2, .int 50]) (rest := []) ⟨hx, hb, hml, hown, hts⟩ (x_X0_requireRange l hst N0 s.heap f 2 50 h4) (va_cwS 3 hts gX0_slide_X0_requireRange rfl rfl rfl (by decide +kernel) ⟨Nat.le_of_ble_eq_true rfl, Nat.le_of_ble_eq_true rfl⟩) ⟨zPx.blind, zPx.call hN hE hS⟩ rfl rfl hl.1 rfl (lv_room (Nat.le_of_ble_eq_true rfl)) dX0_slide_17 ⟨Nat.le_refl _, Nat.le_refl _⟩) hS (fun _ _ h9 => h9) (fun _ h9 => h9) (fun _ _ h9 => h9) (fun E ce q9 u t H locs ht hvm hp hB hz1 hk1 hS hce hcv hcl => ?_) (fun u t H locs ht hvm hp hB hz1 hk1 hS => hp.elim)
  obtain ⟨rfl, hB2, hB3⟩ := hB
  exact vx_out (fun x9 h9 => (hnt x9 h9).elim) hlocks hce hcv hcl (fun t' h1 h2 => ⟨(), trivial, ⟨rfl, by rw [h1, ← ht]; exact hB2, fun q hq => by rw [h1, ← ht]; exact hB3 q hq⟩, hS.F h1⟩) hS.2.2 (Nat.le_refl _) (Nat.le_refl _)

set_option maxHeartbeats 4000000 in
set_option maxRecDepth 100000 in
theorem x_X0_rest_1 (l : Launch) (hst : l.stackTraces = false) (N0 : Nat) (Hx : Heap) (h : Nat) (w : Int32) (hw : ¬ (zw w)) : vx_Met l yX0_rest wsX0_rest ({ frames := 8, cells := 1, slots := 6, locals := 124 }) (va_Pc [.ref h, .int w] (fun U => U.heap = Hx ∧ zPe N0 U)) (va_Qi (fun (_ : Int32) (_ : Unit) => False) (fun _ _ => True) (zA N0)) (vx_X (fun (_ : Unit) => True) (fun E _ t => E = xO ∧ Hx.size ≤ t.heap.size ∧ ∀ q : Nat, q < Hx.size → t.heap[q]? = Hx[q]?) (zA N0)) 1 6 (zA N0) := by
  refine vx_ofW (cc := cX0_rest) (maxL := 3) (ret := (some .int)) (by decide) rfl ?_
  intro pr e s m ag below meth cd s₁ B hml hnt hv
  obtain ⟨rfl, rfl, hN, hE⟩ := hv
  have hx := B.exec
  have hb := B.bytes
  have hts := atoms_spec (ws := wsX0_rest) B.pre
  have hown : s.vm.findClass RX0 = some m.cls := findClass_of_methodNamed B.named
  have hlocks := B.notSynchronized
  have hS : va_S (zA N0) s.heap s.heap [] := va_S.rf
  have hl := lv_entry ([.ref h, .int w]) (n := 3) (Nat.le_of_ble_eq_true rfl)
  rw [lg_entry_eq]
  generalize (lg_sl ([.ref h, .int w]) ++ List.replicate (3 - (lg_sl ([.ref h, .int w])).length) Slot.unset).toArray = ls at hl ⊢
  have hl : lv_has ls 3 [(0, .ref h), (1, .int w)] := hl
  refine lv_iload_n hx hb dX0_rest_0 rfl (lv_at hl 1 rfl) ?_
  refine vx_callv (vx_runS (As := [.int w]) (rest := []) ⟨hx, hb, hml, hown, hts⟩ (x_X0_requireWren l hst N0 s.heap w hw) (va_cwS 1 hts gX0_rest_X0_requireWren rfl rfl rfl (by decide +kernel) ⟨Nat.le_of_ble_eq_true rfl, Nat.le_of_ble_eq_true rfl⟩) ⟨zPx.blind, zPx.call hN hE hS⟩ rfl rfl hl.1 rfl (lv_room (Nat.le_of_ble_eq_true rfl)) dX0_rest_1 ⟨Nat.le_refl _, Nat.le_refl _⟩) hS (fun _ _ h9 => h9) (fun _ h9 => h9) (fun _ _ h9 => h9) (fun E ce q9 u t H locs ht hvm hp hB hz1 hk1 hS hce hcv hcl => ?_) (fun u t H locs ht hvm hp hB hz1 hk1 hS => hp.elim)
  obtain ⟨rfl, hB2, hB3⟩ := hB
  exact vx_out (fun x9 h9 => (hnt x9 h9).elim) hlocks hce hcv hcl (fun t' h1 h2 => ⟨(), trivial, ⟨rfl, by rw [h1, ← ht]; exact hB2, fun q hq => by rw [h1, ← ht]; exact hB3 q hq⟩, hS.F h1⟩) hS.2.2 (Nat.le_refl _) (Nat.le_refl _)

set_option maxHeartbeats 4000000 in
set_option maxRecDepth 100000 in
theorem x_X0_nearest_1 (l : Launch) (hst : l.stackTraces = false) (N0 : Nat) (Hx : Heap) (h : Nat) (p : Int32) (hp : ¬ (zp p)) : vx_Met l yX0_nearest wsX0_nearest ({ frames := 8, cells := 1, slots := 6, locals := 124 }) (va_Pc [.ref h, .int p] (fun U => U.heap = Hx ∧ zPe N0 U)) (va_Qi (fun (_ : Int32) (_ : Unit) => False) (fun _ _ => True) (zA N0)) (vx_X (fun (_ : Unit) => True) (fun E _ t => E = xI ∧ Hx.size ≤ t.heap.size ∧ ∀ q : Nat, q < Hx.size → t.heap[q]? = Hx[q]?) (zA N0)) 1 6 (zA N0) := by
  refine vx_ofW (cc := cX0_nearest) (maxL := 2) (ret := (some .int)) (by decide) rfl ?_
  intro pr e s m ag below meth cd s₁ B hml hnt hv
  obtain ⟨rfl, rfl, hN, hE⟩ := hv
  have hx := B.exec
  have hb := B.bytes
  have hts := atoms_spec (ws := wsX0_nearest) B.pre
  have hown : s.vm.findClass RX0 = some m.cls := findClass_of_methodNamed B.named
  have hlocks := B.notSynchronized
  have hS : va_S (zA N0) s.heap s.heap [] := va_S.rf
  have hl := lv_entry ([.ref h, .int p]) (n := 2) (Nat.le_of_ble_eq_true rfl)
  rw [lg_entry_eq]
  generalize (lg_sl ([.ref h, .int p]) ++ List.replicate (2 - (lg_sl ([.ref h, .int p])).length) Slot.unset).toArray = ls at hl ⊢
  have hl : lv_has ls 2 [(0, .ref h), (1, .int p)] := hl
  refine lv_iload_n hx hb dX0_nearest_0 rfl (lv_at hl 1 rfl) ?_
  refine vx_callv (vx_runS (As := [.int p]) (rest := []) ⟨hx, hb, hml, hown, hts⟩ (x_X0_requirePitch l hst N0 s.heap p hp) (va_cwS 1 hts gX0_nearest_X0_requirePitch rfl rfl rfl (by decide +kernel) ⟨Nat.le_of_ble_eq_true rfl, Nat.le_of_ble_eq_true rfl⟩) ⟨zPx.blind, zPx.call hN hE hS⟩ rfl rfl hl.1 rfl (lv_room (Nat.le_of_ble_eq_true rfl)) dX0_nearest_1 ⟨Nat.le_refl _, Nat.le_refl _⟩) hS (fun _ _ h9 => h9) (fun _ h9 => h9) (fun _ _ h9 => h9) (fun E ce q9 u t H locs ht hvm hp hB hz1 hk1 hS hce hcv hcl => ?_) (fun u t H locs ht hvm hp hB hz1 hk1 hS => hp.elim)
  obtain ⟨rfl, hB2, hB3⟩ := hB
  exact vx_out (fun x9 h9 => (hnt x9 h9).elim) hlocks hce hcv hcl (fun t' h1 h2 => ⟨(), trivial, ⟨rfl, by rw [h1, ← ht]; exact hB2, fun q hq => by rw [h1, ← ht]; exact hB3 q hq⟩, hS.F h1⟩) hS.2.2 (Nat.le_refl _) (Nat.le_refl _)

set_option maxHeartbeats 4000000 in
set_option maxRecDepth 100000 in
theorem x_X0_stepOf_1 (l : Launch) (hst : l.stackTraces = false) (N0 : Nat) (Hx : Heap) (h : Nat) (p : Int32) (hp : ¬ (zp p)) : vx_Met l yX0_stepOf wsX0_stepOf ({ frames := 8, cells := 1, slots := 6, locals := 124 }) (va_Pc [.ref h, .int p] (fun U => U.heap = Hx ∧ zPe N0 U)) (va_Qi (fun (_ : Int32) (_ : Unit) => False) (fun _ _ => True) (zA N0)) (vx_X (fun (_ : Unit) => True) (fun E _ t => E = xI ∧ Hx.size ≤ t.heap.size ∧ ∀ q : Nat, q < Hx.size → t.heap[q]? = Hx[q]?) (zA N0)) 1 6 (zA N0) := by
  refine vx_ofW (cc := cX0_stepOf) (maxL := 2) (ret := (some .int)) (by decide) rfl ?_
  intro pr e s m ag below meth cd s₁ B hml hnt hv
  obtain ⟨rfl, rfl, hN, hE⟩ := hv
  have hx := B.exec
  have hb := B.bytes
  have hts := atoms_spec (ws := wsX0_stepOf) B.pre
  have hown : s.vm.findClass RX0 = some m.cls := findClass_of_methodNamed B.named
  have hlocks := B.notSynchronized
  have hS : va_S (zA N0) s.heap s.heap [] := va_S.rf
  have hl := lv_entry ([.ref h, .int p]) (n := 2) (Nat.le_of_ble_eq_true rfl)
  rw [lg_entry_eq]
  generalize (lg_sl ([.ref h, .int p]) ++ List.replicate (2 - (lg_sl ([.ref h, .int p])).length) Slot.unset).toArray = ls at hl ⊢
  have hl : lv_has ls 2 [(0, .ref h), (1, .int p)] := hl
  refine lv_iload_n hx hb dX0_stepOf_0 rfl (lv_at hl 1 rfl) ?_
  refine vx_callv (vx_runS (As := [.int p]) (rest := []) ⟨hx, hb, hml, hown, hts⟩ (x_X0_requirePitch l hst N0 s.heap p hp) (va_cwS 1 hts gX0_stepOf_X0_requirePitch rfl rfl rfl (by decide +kernel) ⟨Nat.le_of_ble_eq_true rfl, Nat.le_of_ble_eq_true rfl⟩) ⟨zPx.blind, zPx.call hN hE hS⟩ rfl rfl hl.1 rfl (lv_room (Nat.le_of_ble_eq_true rfl)) dX0_stepOf_1 ⟨Nat.le_refl _, Nat.le_refl _⟩) hS (fun _ _ h9 => h9) (fun _ h9 => h9) (fun _ _ h9 => h9) (fun E ce q9 u t H locs ht hvm hp hB hz1 hk1 hS hce hcv hcl => ?_) (fun u t H locs ht hvm hp hB hz1 hk1 hS => hp.elim)
  obtain ⟨rfl, hB2, hB3⟩ := hB
  exact vx_out (fun x9 h9 => (hnt x9 h9).elim) hlocks hce hcv hcl (fun t' h1 h2 => ⟨(), trivial, ⟨rfl, by rw [h1, ← ht]; exact hB2, fun q hq => by rw [h1, ← ht]; exact hB3 q hq⟩, hS.F h1⟩) hS.2.2 (Nat.le_refl _) (Nat.le_refl _)

set_option maxHeartbeats 4000000 in
set_option maxRecDepth 100000 in
theorem x_X0_rungOf_1 (l : Launch) (hst : l.stackTraces = false) (N0 : Nat) (Hx : Heap) (h : Nat) (w : Int32) (hw : ¬ (zw w)) : vx_Met l yX0_rungOf wsX0_rungOf ({ frames := 8, cells := 1, slots := 6, locals := 124 }) (va_Pc [.ref h, .int w] (fun U => U.heap = Hx ∧ zPe N0 U)) (va_Qi (fun (_ : Int32) (_ : Unit) => False) (fun _ _ => True) (zA N0)) (vx_X (fun (_ : Unit) => True) (fun E _ t => E = xO ∧ Hx.size ≤ t.heap.size ∧ ∀ q : Nat, q < Hx.size → t.heap[q]? = Hx[q]?) (zA N0)) 1 6 (zA N0) := by
  refine vx_ofW (cc := cX0_rungOf) (maxL := 2) (ret := (some .int)) (by decide) rfl ?_
  intro pr e s m ag below meth cd s₁ B hml hnt hv
  obtain ⟨rfl, rfl, hN, hE⟩ := hv
  have hx := B.exec
  have hb := B.bytes
  have hts := atoms_spec (ws := wsX0_rungOf) B.pre
  have hown : s.vm.findClass RX0 = some m.cls := findClass_of_methodNamed B.named
  have hlocks := B.notSynchronized
  have hS : va_S (zA N0) s.heap s.heap [] := va_S.rf
  have hl := lv_entry ([.ref h, .int w]) (n := 2) (Nat.le_of_ble_eq_true rfl)
  rw [lg_entry_eq]
  generalize (lg_sl ([.ref h, .int w]) ++ List.replicate (2 - (lg_sl ([.ref h, .int w])).length) Slot.unset).toArray = ls at hl ⊢
  have hl : lv_has ls 2 [(0, .ref h), (1, .int w)] := hl
  refine lv_iload_n hx hb dX0_rungOf_0 rfl (lv_at hl 1 rfl) ?_
  refine vx_callv (vx_runS (As := [.int w]) (rest := []) ⟨hx, hb, hml, hown, hts⟩ (x_X0_requireWren l hst N0 s.heap w hw) (va_cwS 1 hts gX0_rungOf_X0_requireWren rfl rfl rfl (by decide +kernel) ⟨Nat.le_of_ble_eq_true rfl, Nat.le_of_ble_eq_true rfl⟩) ⟨zPx.blind, zPx.call hN hE hS⟩ rfl rfl hl.1 rfl (lv_room (Nat.le_of_ble_eq_true rfl)) dX0_rungOf_1 ⟨Nat.le_refl _, Nat.le_refl _⟩) hS (fun _ _ h9 => h9) (fun _ h9 => h9) (fun _ _ h9 => h9) (fun E ce q9 u t H locs ht hvm hp hB hz1 hk1 hS hce hcv hcl => ?_) (fun u t H locs ht hvm hp hB hz1 hk1 hS => hp.elim)
  obtain ⟨rfl, hB2, hB3⟩ := hB
  exact vx_out (fun x9 h9 => (hnt x9 h9).elim) hlocks hce hcv hcl (fun t' h1 h2 => ⟨(), trivial, ⟨rfl, by rw [h1, ← ht]; exact hB2, fun q hq => by rw [h1, ← ht]; exact hB3 q hq⟩, hS.F h1⟩) hS.2.2 (Nat.le_refl _) (Nat.le_refl _)

set_option maxHeartbeats 4000000 in
set_option maxRecDepth 100000 in
theorem x_X0_nudgeOf_1 (l : Launch) (hst : l.stackTraces = false) (N0 : Nat) (Hx : Heap) (h : Nat) (w : Int32) (hw : ¬ (zw w)) : vx_Met l yX0_nudgeOf wsX0_nudgeOf ({ frames := 8, cells := 1, slots := 6, locals := 124 }) (va_Pc [.ref h, .int w] (fun U => U.heap = Hx ∧ zPe N0 U)) (va_Qi (fun (_ : Int32) (_ : Unit) => False) (fun _ _ => True) (zA N0)) (vx_X (fun (_ : Unit) => True) (fun E _ t => E = xO ∧ Hx.size ≤ t.heap.size ∧ ∀ q : Nat, q < Hx.size → t.heap[q]? = Hx[q]?) (zA N0)) 1 6 (zA N0) := by
  refine vx_ofW (cc := cX0_nudgeOf) (maxL := 2) (ret := (some .int)) (by decide) rfl ?_
  intro pr e s m ag below meth cd s₁ B hml hnt hv
  obtain ⟨rfl, rfl, hN, hE⟩ := hv
  have hx := B.exec
  have hb := B.bytes
  have hts := atoms_spec (ws := wsX0_nudgeOf) B.pre
  have hown : s.vm.findClass RX0 = some m.cls := findClass_of_methodNamed B.named
  have hlocks := B.notSynchronized
  have hS : va_S (zA N0) s.heap s.heap [] := va_S.rf
  have hl := lv_entry ([.ref h, .int w]) (n := 2) (Nat.le_of_ble_eq_true rfl)
  rw [lg_entry_eq]
  generalize (lg_sl ([.ref h, .int w]) ++ List.replicate (2 - (lg_sl ([.ref h, .int w])).length) Slot.unset).toArray = ls at hl ⊢
  have hl : lv_has ls 2 [(0, .ref h), (1, .int w)] := hl
  refine lv_iload_n hx hb dX0_nudgeOf_0 rfl (lv_at hl 1 rfl) ?_
  refine vx_callv (vx_runS (As := [.int w]) (rest := []) ⟨hx, hb, hml, hown, hts⟩ (x_X0_requireWren l hst N0 s.heap w hw) (va_cwS 1 hts gX0_nudgeOf_X0_requireWren rfl rfl rfl (by decide +kernel) ⟨Nat.le_of_ble_eq_true rfl, Nat.le_of_ble_eq_true rfl⟩) ⟨zPx.blind, zPx.call hN hE hS⟩ rfl rfl hl.1 rfl (lv_room (Nat.le_of_ble_eq_true rfl)) dX0_nudgeOf_1 ⟨Nat.le_refl _, Nat.le_refl _⟩) hS (fun _ _ h9 => h9) (fun _ h9 => h9) (fun _ _ h9 => h9) (fun E ce q9 u t H locs ht hvm hp hB hz1 hk1 hS hce hcv hcl => ?_) (fun u t H locs ht hvm hp hB hz1 hk1 hS => hp.elim)
  obtain ⟨rfl, hB2, hB3⟩ := hB
  exact vx_out (fun x9 h9 => (hnt x9 h9).elim) hlocks hce hcv hcl (fun t' h1 h2 => ⟨(), trivial, ⟨rfl, by rw [h1, ← ht]; exact hB2, fun q hq => by rw [h1, ← ht]; exact hB3 q hq⟩, hS.F h1⟩) hS.2.2 (Nat.le_refl _) (Nat.le_refl _)

set_option maxHeartbeats 4000000 in
set_option maxRecDepth 100000 in
theorem x_X0_framesOf_1 (l : Launch) (hst : l.stackTraces = false) (N0 : Nat) (Hx : Heap) (h : Nat) (w : Int32) (hw : ¬ (zw w)) : vx_Met l yX0_framesOf wsX0_framesOf ({ frames := 8, cells := 1, slots := 6, locals := 124 }) (va_Pc [.ref h, .int w] (fun U => U.heap = Hx ∧ zPe N0 U)) (va_Qi (fun (_ : Int32) (_ : Unit) => False) (fun _ _ => True) (zA N0)) (vx_X (fun (_ : Unit) => True) (fun E _ t => E = xO ∧ Hx.size ≤ t.heap.size ∧ ∀ q : Nat, q < Hx.size → t.heap[q]? = Hx[q]?) (zA N0)) 1 6 (zA N0) := by
  refine vx_ofW (cc := cX0_framesOf) (maxL := 2) (ret := (some .int)) (by decide) rfl ?_
  intro pr e s m ag below meth cd s₁ B hml hnt hv
  obtain ⟨rfl, rfl, hN, hE⟩ := hv
  have hx := B.exec
  have hb := B.bytes
  have hts := atoms_spec (ws := wsX0_framesOf) B.pre
  have hown : s.vm.findClass RX0 = some m.cls := findClass_of_methodNamed B.named
  have hlocks := B.notSynchronized
  have hS : va_S (zA N0) s.heap s.heap [] := va_S.rf
  have hl := lv_entry ([.ref h, .int w]) (n := 2) (Nat.le_of_ble_eq_true rfl)
  rw [lg_entry_eq]
  generalize (lg_sl ([.ref h, .int w]) ++ List.replicate (2 - (lg_sl ([.ref h, .int w])).length) Slot.unset).toArray = ls at hl ⊢
  have hl : lv_has ls 2 [(0, .ref h), (1, .int w)] := hl
  refine lv_iload_n hx hb dX0_framesOf_0 rfl (lv_at hl 1 rfl) ?_
  refine vx_callv (vx_runS (As := [.int w]) (rest := []) ⟨hx, hb, hml, hown, hts⟩ (x_X0_requireWren l hst N0 s.heap w hw) (va_cwS 1 hts gX0_framesOf_X0_requireWren rfl rfl rfl (by decide +kernel) ⟨Nat.le_of_ble_eq_true rfl, Nat.le_of_ble_eq_true rfl⟩) ⟨zPx.blind, zPx.call hN hE hS⟩ rfl rfl hl.1 rfl (lv_room (Nat.le_of_ble_eq_true rfl)) dX0_framesOf_1 ⟨Nat.le_refl _, Nat.le_refl _⟩) hS (fun _ _ h9 => h9) (fun _ h9 => h9) (fun _ _ h9 => h9) (fun E ce q9 u t H locs ht hvm hp hB hz1 hk1 hS hce hcv hcl => ?_) (fun u t H locs ht hvm hp hB hz1 hk1 hS => hp.elim)
  obtain ⟨rfl, hB2, hB3⟩ := hB
  exact vx_out (fun x9 h9 => (hnt x9 h9).elim) hlocks hce hcv hcl (fun t' h1 h2 => ⟨(), trivial, ⟨rfl, by rw [h1, ← ht]; exact hB2, fun q hq => by rw [h1, ← ht]; exact hB3 q hq⟩, hS.F h1⟩) hS.2.2 (Nat.le_refl _) (Nat.le_refl _)

set_option maxHeartbeats 4000000 in
set_option maxRecDepth 100000 in
theorem x_X0_changesOf_1 (l : Launch) (hst : l.stackTraces = false) (N0 : Nat) (Hx : Heap) (h : Nat) (w : Int32) (hw : ¬ (zw w)) : vx_Met l yX0_changesOf wsX0_changesOf ({ frames := 8, cells := 1, slots := 6, locals := 124 }) (va_Pc [.ref h, .int w] (fun U => U.heap = Hx ∧ zPe N0 U)) (va_Qi (fun (_ : Int32) (_ : Unit) => False) (fun _ _ => True) (zA N0)) (vx_X (fun (_ : Unit) => True) (fun E _ t => E = xO ∧ Hx.size ≤ t.heap.size ∧ ∀ q : Nat, q < Hx.size → t.heap[q]? = Hx[q]?) (zA N0)) 1 6 (zA N0) := by
  refine vx_ofW (cc := cX0_changesOf) (maxL := 2) (ret := (some .int)) (by decide) rfl ?_
  intro pr e s m ag below meth cd s₁ B hml hnt hv
  obtain ⟨rfl, rfl, hN, hE⟩ := hv
  have hx := B.exec
  have hb := B.bytes
  have hts := atoms_spec (ws := wsX0_changesOf) B.pre
  have hown : s.vm.findClass RX0 = some m.cls := findClass_of_methodNamed B.named
  have hlocks := B.notSynchronized
  have hS : va_S (zA N0) s.heap s.heap [] := va_S.rf
  have hl := lv_entry ([.ref h, .int w]) (n := 2) (Nat.le_of_ble_eq_true rfl)
  rw [lg_entry_eq]
  generalize (lg_sl ([.ref h, .int w]) ++ List.replicate (2 - (lg_sl ([.ref h, .int w])).length) Slot.unset).toArray = ls at hl ⊢
  have hl : lv_has ls 2 [(0, .ref h), (1, .int w)] := hl
  refine lv_iload_n hx hb dX0_changesOf_0 rfl (lv_at hl 1 rfl) ?_
  refine vx_callv (vx_runS (As := [.int w]) (rest := []) ⟨hx, hb, hml, hown, hts⟩ (x_X0_requireWren l hst N0 s.heap w hw) (va_cwS 1 hts gX0_changesOf_X0_requireWren rfl rfl rfl (by decide +kernel) ⟨Nat.le_of_ble_eq_true rfl, Nat.le_of_ble_eq_true rfl⟩) ⟨zPx.blind, zPx.call hN hE hS⟩ rfl rfl hl.1 rfl (lv_room (Nat.le_of_ble_eq_true rfl)) dX0_changesOf_1 ⟨Nat.le_refl _, Nat.le_refl _⟩) hS (fun _ _ h9 => h9) (fun _ h9 => h9) (fun _ _ h9 => h9) (fun E ce q9 u t H locs ht hvm hp hB hz1 hk1 hS hce hcv hcl => ?_) (fun u t H locs ht hvm hp hB hz1 hk1 hS => hp.elim)
  obtain ⟨rfl, hB2, hB3⟩ := hB
  exact vx_out (fun x9 h9 => (hnt x9 h9).elim) hlocks hce hcv hcl (fun t' h1 h2 => ⟨(), trivial, ⟨rfl, by rw [h1, ← ht]; exact hB2, fun q hq => by rw [h1, ← ht]; exact hB3 q hq⟩, hS.F h1⟩) hS.2.2 (Nat.le_refl _) (Nat.le_refl _)

set_option maxHeartbeats 4000000 in
set_option maxRecDepth 100000 in
theorem x_X0_leapsOf_1 (l : Launch) (hst : l.stackTraces = false) (N0 : Nat) (Hx : Heap) (h : Nat) (w : Int32) (hw : ¬ (zw w)) : vx_Met l yX0_leapsOf wsX0_leapsOf ({ frames := 8, cells := 1, slots := 6, locals := 124 }) (va_Pc [.ref h, .int w] (fun U => U.heap = Hx ∧ zPe N0 U)) (va_Qi (fun (_ : Int32) (_ : Unit) => False) (fun _ _ => True) (zA N0)) (vx_X (fun (_ : Unit) => True) (fun E _ t => E = xO ∧ Hx.size ≤ t.heap.size ∧ ∀ q : Nat, q < Hx.size → t.heap[q]? = Hx[q]?) (zA N0)) 1 6 (zA N0) := by
  refine vx_ofW (cc := cX0_leapsOf) (maxL := 2) (ret := (some .int)) (by decide) rfl ?_
  intro pr e s m ag below meth cd s₁ B hml hnt hv
  obtain ⟨rfl, rfl, hN, hE⟩ := hv
  have hx := B.exec
  have hb := B.bytes
  have hts := atoms_spec (ws := wsX0_leapsOf) B.pre
  have hown : s.vm.findClass RX0 = some m.cls := findClass_of_methodNamed B.named
  have hlocks := B.notSynchronized
  have hS : va_S (zA N0) s.heap s.heap [] := va_S.rf
  have hl := lv_entry ([.ref h, .int w]) (n := 2) (Nat.le_of_ble_eq_true rfl)
  rw [lg_entry_eq]
  generalize (lg_sl ([.ref h, .int w]) ++ List.replicate (2 - (lg_sl ([.ref h, .int w])).length) Slot.unset).toArray = ls at hl ⊢
  have hl : lv_has ls 2 [(0, .ref h), (1, .int w)] := hl
  refine lv_iload_n hx hb dX0_leapsOf_0 rfl (lv_at hl 1 rfl) ?_
  refine vx_callv (vx_runS (As := [.int w]) (rest := []) ⟨hx, hb, hml, hown, hts⟩ (x_X0_requireWren l hst N0 s.heap w hw) (va_cwS 1 hts gX0_leapsOf_X0_requireWren rfl rfl rfl (by decide +kernel) ⟨Nat.le_of_ble_eq_true rfl, Nat.le_of_ble_eq_true rfl⟩) ⟨zPx.blind, zPx.call hN hE hS⟩ rfl rfl hl.1 rfl (lv_room (Nat.le_of_ble_eq_true rfl)) dX0_leapsOf_1 ⟨Nat.le_refl _, Nat.le_refl _⟩) hS (fun _ _ h9 => h9) (fun _ h9 => h9) (fun _ _ h9 => h9) (fun E ce q9 u t H locs ht hvm hp hB hz1 hk1 hS hce hcv hcl => ?_) (fun u t H locs ht hvm hp hB hz1 hk1 hS => hp.elim)
  obtain ⟨rfl, hB2, hB3⟩ := hB
  exact vx_out (fun x9 h9 => (hnt x9 h9).elim) hlocks hce hcv hcl (fun t' h1 h2 => ⟨(), trivial, ⟨rfl, by rw [h1, ← ht]; exact hB2, fun q hq => by rw [h1, ← ht]; exact hB3 q hq⟩, hS.F h1⟩) hS.2.2 (Nat.le_refl _) (Nat.le_refl _)

set_option maxHeartbeats 4000000 in
set_option maxRecDepth 100000 in
theorem x_X0_cleanOf_1 (l : Launch) (hst : l.stackTraces = false) (N0 : Nat) (Hx : Heap) (h : Nat) (w : Int32) (hw : ¬ (zw w)) : vx_Met l yX0_cleanOf wsX0_cleanOf ({ frames := 8, cells := 1, slots := 6, locals := 124 }) (va_Pc [.ref h, .int w] (fun U => U.heap = Hx ∧ zPe N0 U)) (va_Qi (fun (_ : Int32) (_ : Unit) => False) (fun _ _ => True) (zA N0)) (vx_X (fun (_ : Unit) => True) (fun E _ t => E = xO ∧ Hx.size ≤ t.heap.size ∧ ∀ q : Nat, q < Hx.size → t.heap[q]? = Hx[q]?) (zA N0)) 1 6 (zA N0) := by
  refine vx_ofW (cc := cX0_cleanOf) (maxL := 2) (ret := (some .int)) (by decide) rfl ?_
  intro pr e s m ag below meth cd s₁ B hml hnt hv
  obtain ⟨rfl, rfl, hN, hE⟩ := hv
  have hx := B.exec
  have hb := B.bytes
  have hts := atoms_spec (ws := wsX0_cleanOf) B.pre
  have hown : s.vm.findClass RX0 = some m.cls := findClass_of_methodNamed B.named
  have hlocks := B.notSynchronized
  have hS : va_S (zA N0) s.heap s.heap [] := va_S.rf
  have hl := lv_entry ([.ref h, .int w]) (n := 2) (Nat.le_of_ble_eq_true rfl)
  rw [lg_entry_eq]
  generalize (lg_sl ([.ref h, .int w]) ++ List.replicate (2 - (lg_sl ([.ref h, .int w])).length) Slot.unset).toArray = ls at hl ⊢
  have hl : lv_has ls 2 [(0, .ref h), (1, .int w)] := hl
  refine lv_iload_n hx hb dX0_cleanOf_0 rfl (lv_at hl 1 rfl) ?_
  refine vx_callv (vx_runS (As := [.int w]) (rest := []) ⟨hx, hb, hml, hown, hts⟩ (x_X0_requireWren l hst N0 s.heap w hw) (va_cwS 1 hts gX0_cleanOf_X0_requireWren rfl rfl rfl (by decide +kernel) ⟨Nat.le_of_ble_eq_true rfl, Nat.le_of_ble_eq_true rfl⟩) ⟨zPx.blind, zPx.call hN hE hS⟩ rfl rfl hl.1 rfl (lv_room (Nat.le_of_ble_eq_true rfl)) dX0_cleanOf_1 ⟨Nat.le_refl _, Nat.le_refl _⟩) hS (fun _ _ h9 => h9) (fun _ h9 => h9) (fun _ _ h9 => h9) (fun E ce q9 u t H locs ht hvm hp hB hz1 hk1 hS hce hcv hcl => ?_) (fun u t H locs ht hvm hp hB hz1 hk1 hS => hp.elim)
  obtain ⟨rfl, hB2, hB3⟩ := hB
  exact vx_out (fun x9 h9 => (hnt x9 h9).elim) hlocks hce hcv hcl (fun t' h1 h2 => ⟨(), trivial, ⟨rfl, by rw [h1, ← ht]; exact hB2, fun q hq => by rw [h1, ← ht]; exact hB3 q hq⟩, hS.F h1⟩) hS.2.2 (Nat.le_refl _) (Nat.le_refl _)

set_option maxHeartbeats 4000000 in
set_option maxRecDepth 100000 in
theorem x_X0_framesToRung_1 (l : Launch) (hst : l.stackTraces = false) (N0 : Nat) (Hx : Heap) (h : Nat) (w : Int32) (p : Int32) (hw : ¬ (zw w)) : vx_Met l yX0_framesToRung wsX0_framesToRung ({ frames := 8, cells := 1, slots := 6, locals := 124 }) (va_Pc [.ref h, .int w, .int p] (fun U => U.heap = Hx ∧ zPe N0 U)) (va_Qi (fun (_ : Int32) (_ : Unit) => False) (fun _ _ => True) (zA N0)) (vx_X (fun (_ : Unit) => True) (fun E _ t => E = xO ∧ Hx.size ≤ t.heap.size ∧ ∀ q : Nat, q < Hx.size → t.heap[q]? = Hx[q]?) (zA N0)) 1 6 (zA N0) := by
  refine vx_ofW (cc := cX0_framesToRung) (maxL := 6) (ret := (some .int)) (by decide) rfl ?_
  intro pr e s m ag below meth cd s₁ B hml hnt hv
  obtain ⟨rfl, rfl, hN, hE⟩ := hv
  have hx := B.exec
  have hb := B.bytes
  have hts := atoms_spec (ws := wsX0_framesToRung) B.pre
  have hown : s.vm.findClass RX0 = some m.cls := findClass_of_methodNamed B.named
  have hlocks := B.notSynchronized
  have hS : va_S (zA N0) s.heap s.heap [] := va_S.rf
  have hl := lv_entry ([.ref h, .int w, .int p]) (n := 6) (Nat.le_of_ble_eq_true rfl)
  rw [lg_entry_eq]
  generalize (lg_sl ([.ref h, .int w, .int p]) ++ List.replicate (6 - (lg_sl ([.ref h, .int w, .int p])).length) Slot.unset).toArray = ls at hl ⊢
  have hl : lv_has ls 6 [(0, .ref h), (1, .int w), (2, .int p)] := hl
  refine lv_iload_n hx hb dX0_framesToRung_0 rfl (lv_at hl 1 rfl) ?_
  refine vx_callv (vx_runS (As := [.int w]) (rest := []) ⟨hx, hb, hml, hown, hts⟩ (x_X0_requireWren l hst N0 s.heap w hw) (va_cwS 1 hts gX0_framesToRung_X0_requireWren rfl rfl rfl (by decide +kernel) ⟨Nat.le_of_ble_eq_true rfl, Nat.le_of_ble_eq_true rfl⟩) ⟨zPx.blind, zPx.call hN hE hS⟩ rfl rfl hl.1 rfl (lv_room (Nat.le_of_ble_eq_true rfl)) dX0_framesToRung_1 ⟨Nat.le_refl _, Nat.le_refl _⟩) hS (fun _ _ h9 => h9) (fun _ h9 => h9) (fun _ _ h9 => h9) (fun E ce q9 u t H locs ht hvm hp hB hz1 hk1 hS hce hcv hcl => ?_) (fun u t H locs ht hvm hp hB hz1 hk1 hS => hp.elim)
  obtain ⟨rfl, hB2, hB3⟩ := hB
  exact vx_out (fun x9 h9 => (hnt x9 h9).elim) hlocks hce hcv hcl (fun t' h1 h2 => ⟨(), trivial, ⟨rfl, by rw [h1, ← ht]; exact hB2, fun q hq => by rw [h1, ← ht]; exact hB3 q hq⟩, hS.F h1⟩) hS.2.2 (Nat.le_refl _) (Nat.le_refl _)

set_option maxHeartbeats 4000000 in
set_option maxRecDepth 100000 in
theorem x_X0_framesToRung_2 (l : Launch) (hst : l.stackTraces = false) (N0 : Nat) (Hx : Heap) (h : Nat) (w : Int32) (p : Int32) (hw : zw w) (hp : ¬ (zp p)) : vx_Met l yX0_framesToRung wsX0_framesToRung ({ frames := 8, cells := 1, slots := 6, locals := 124 }) (va_Pc [.ref h, .int w, .int p] (fun U => U.heap = Hx ∧ zPe N0 U)) (va_Qi (fun (_ : Int32) (_ : Unit) => False) (fun _ _ => True) (zA N0)) (vx_X (fun (_ : Unit) => True) (fun E _ t => E = xI ∧ Hx.size ≤ t.heap.size ∧ ∀ q : Nat, q < Hx.size → t.heap[q]? = Hx[q]?) (zA N0)) 1 6 (zA N0) := by
  refine vx_ofW (cc := cX0_framesToRung) (maxL := 6) (ret := (some .int)) (by decide) rfl ?_
  intro pr e s m ag below meth cd s₁ B hml hnt hv
  obtain ⟨rfl, rfl, hN, hE⟩ := hv
  have hx := B.exec
  have hb := B.bytes
  have hts := atoms_spec (ws := wsX0_framesToRung) B.pre
  have hown : s.vm.findClass RX0 = some m.cls := findClass_of_methodNamed B.named
  have hlocks := B.notSynchronized
  have hS : va_S (zA N0) s.heap s.heap [] := va_S.rf
  have hl := lv_entry ([.ref h, .int w, .int p]) (n := 6) (Nat.le_of_ble_eq_true rfl)
  rw [lg_entry_eq]
  generalize (lg_sl ([.ref h, .int w, .int p]) ++ List.replicate (6 - (lg_sl ([.ref h, .int w, .int p])).length) Slot.unset).toArray = ls at hl ⊢
  have hl : lv_has ls 6 [(0, .ref h), (1, .int w), (2, .int p)] := hl
  refine lv_iload_n hx hb dX0_framesToRung_0 rfl (lv_at hl 1 rfl) ?_
  refine va_csv ((va_runS (As := [.int w]) (rest := []) ⟨hx, hb, hml, hown, hts⟩ (c_X0_requireWren_v l w hw) (va_cwS 1 hts gX0_framesToRung_X0_requireWren rfl rfl rfl (by decide +kernel) ⟨Nat.le_of_ble_eq_true rfl, Nat.le_of_ble_eq_true rfl⟩) ⟨zT.blind, zT.call⟩ rfl rfl hl.1 rfl (lv_room (Nat.le_of_ble_eq_true rfl)) dX0_framesToRung_1 ⟨Nat.zero_le _, Nat.zero_le _⟩).run) (fun _ => ?_)
  refine lv_iload_n hx hb dX0_framesToRung_4 rfl (lv_at hl 2 rfl) ?_
  refine vx_callv (vx_runS (As := [.int p]) (rest := []) ⟨hx, hb, hml, hown, hts⟩ (x_X0_requirePitch l hst N0 s.heap p hp) (va_cwS 1 hts gX0_framesToRung_X0_requirePitch rfl rfl rfl (by decide +kernel) ⟨Nat.le_of_ble_eq_true rfl, Nat.le_of_ble_eq_true rfl⟩) ⟨zPx.blind, zPx.call hN hE hS⟩ rfl rfl hl.1 rfl (lv_room (Nat.le_of_ble_eq_true rfl)) dX0_framesToRung_5 ⟨Nat.le_refl _, Nat.le_refl _⟩) hS (fun _ _ h9 => h9) (fun _ h9 => h9) (fun _ _ h9 => h9) (fun E ce q9 u t H locs ht hvm hp hB hz1 hk1 hS hce hcv hcl => ?_) (fun u t H locs ht hvm hp hB hz1 hk1 hS => hp.elim)
  obtain ⟨rfl, hB2, hB3⟩ := hB
  exact vx_out (fun x9 h9 => (hnt x9 h9).elim) hlocks hce hcv hcl (fun t' h1 h2 => ⟨(), trivial, ⟨rfl, by rw [h1, ← ht]; exact hB2, fun q hq => by rw [h1, ← ht]; exact hB3 q hq⟩, hS.F h1⟩) hS.2.2 (Nat.le_refl _) (Nat.le_refl _)

set_option maxHeartbeats 4000000 in
set_option maxRecDepth 100000 in
theorem x_X0_bestKey_1 (l : Launch) (hst : l.stackTraces = false) (N0 : Nat) (Hx : Heap) (h : Nat) (md : Int32) (h1 : ¬ (0 ≤ md ∧ md ≤ 7)) : vx_Met l yX0_bestKey wsX0_bestKey ({ frames := 8, cells := 1, slots := 6, locals := 124 }) (va_Pc [.ref h, .int md] (fun U => U.heap = Hx ∧ zPe N0 U)) (va_Qi (fun (_ : Int32) (_ : Unit) => False) (fun _ _ => True) (zA N0)) (vx_X (fun (_ : Unit) => True) (fun E _ t => E = xI ∧ Hx.size ≤ t.heap.size ∧ ∀ q : Nat, q < Hx.size → t.heap[q]? = Hx[q]?) (zA N0)) 1 6 (zA N0) := by
  refine vx_ofW (cc := cX0_bestKey) (maxL := 6) (ret := (some .int)) (by decide) rfl ?_
  intro pr e s m ag below meth cd s₁ B hml hnt hv
  obtain ⟨rfl, rfl, hN, hE⟩ := hv
  have hx := B.exec
  have hb := B.bytes
  have hts := atoms_spec (ws := wsX0_bestKey) B.pre
  have hown : s.vm.findClass RX0 = some m.cls := findClass_of_methodNamed B.named
  have hlocks := B.notSynchronized
  have hS : va_S (zA N0) s.heap s.heap [] := va_S.rf
  have hl := lv_entry ([.ref h, .int md]) (n := 6) (Nat.le_of_ble_eq_true rfl)
  rw [lg_entry_eq]
  generalize (lg_sl ([.ref h, .int md]) ++ List.replicate (6 - (lg_sl ([.ref h, .int md])).length) Slot.unset).toArray = ls at hl ⊢
  have hl : lv_has ls 6 [(0, .ref h), (1, .int md)] := hl
  refine lv_iload_n hx hb dX0_bestKey_0 rfl (lv_at hl 1 rfl) ?_
  refine lv_iconst (v := 0) hx hb dX0_bestKey_1 (by decide) ?_
  refine lv_bipush (v := 7) hx hb dX0_bestKey_2 (by decide) ?_
  refine vx_callv (vx_runS (As := [.int md, .int 0, .int 7]) (rest := []) ⟨hx, hb, hml, hown, hts⟩ (x_X0_requireRange l hst N0 s.heap md 0 7 h1) (va_cwS 3 hts gX0_bestKey_X0_requireRange rfl rfl rfl (by decide +kernel) ⟨Nat.le_of_ble_eq_true rfl, Nat.le_of_ble_eq_true rfl⟩) ⟨zPx.blind, zPx.call hN hE hS⟩ rfl rfl hl.1 rfl (lv_room (Nat.le_of_ble_eq_true rfl)) dX0_bestKey_4 ⟨Nat.le_refl _, Nat.le_refl _⟩) hS (fun _ _ h9 => h9) (fun _ h9 => h9) (fun _ _ h9 => h9) (fun E ce q9 u t H locs ht hvm hp hB hz1 hk1 hS hce hcv hcl => ?_) (fun u t H locs ht hvm hp hB hz1 hk1 hS => hp.elim)
  obtain ⟨rfl, hB2, hB3⟩ := hB
  exact vx_out (fun x9 h9 => (hnt x9 h9).elim) hlocks hce hcv hcl (fun t' h1 h2 => ⟨(), trivial, ⟨rfl, by rw [h1, ← ht]; exact hB2, fun q hq => by rw [h1, ← ht]; exact hB3 q hq⟩, hS.F h1⟩) hS.2.2 (Nat.le_refl _) (Nat.le_refl _)

set_option maxHeartbeats 4000000 in
set_option maxRecDepth 100000 in
theorem x_X0_within_1 (l : Launch) (hst : l.stackTraces = false) (N0 : Nat) (Hx : Heap) (h : Nat) (key : Int32) (md : Int32) (h1 : ¬ (0 ≤ key ∧ key ≤ 11)) : vx_Met l yX0_within wsX0_within ({ frames := 8, cells := 1, slots := 6, locals := 124 }) (va_Pc [.ref h, .int key, .int md] (fun U => U.heap = Hx ∧ zPe N0 U)) (va_Qi (fun (_ : Int32) (_ : Unit) => False) (fun _ _ => True) (zA N0)) (vx_X (fun (_ : Unit) => True) (fun E _ t => E = xI ∧ Hx.size ≤ t.heap.size ∧ ∀ q : Nat, q < Hx.size → t.heap[q]? = Hx[q]?) (zA N0)) 1 6 (zA N0) := by
  refine vx_ofW (cc := cX0_within) (maxL := 3) (ret := (some .int)) (by decide) rfl ?_
  intro pr e s m ag below meth cd s₁ B hml hnt hv
  obtain ⟨rfl, rfl, hN, hE⟩ := hv
  have hx := B.exec
  have hb := B.bytes
  have hts := atoms_spec (ws := wsX0_within) B.pre
  have hown : s.vm.findClass RX0 = some m.cls := findClass_of_methodNamed B.named
  have hlocks := B.notSynchronized
  have hS : va_S (zA N0) s.heap s.heap [] := va_S.rf
  have hl := lv_entry ([.ref h, .int key, .int md]) (n := 3) (Nat.le_of_ble_eq_true rfl)
  rw [lg_entry_eq]
  generalize (lg_sl ([.ref h, .int key, .int md]) ++ List.replicate (3 - (lg_sl ([.ref h, .int key, .int md])).length) Slot.unset).toArray = ls at hl ⊢
  have hl : lv_has ls 3 [(0, .ref h), (1, .int key), (2, .int md)] := hl
  refine lv_iload_n hx hb dX0_within_0 rfl (lv_at hl 1 rfl) ?_
  refine lv_iconst (v := 0) hx hb dX0_within_1 (by decide) ?_
  refine lv_bipush (v := 11) hx hb dX0_within_2 (by decide) ?_
  refine vx_callv (vx_runS (As := [.int key, .int 0, .int 11]) (rest := []) ⟨hx, hb, hml, hown, hts⟩ (x_X0_requireRange l hst N0 s.heap key 0 11 h1) (va_cwS 3 hts gX0_within_X0_requireRange rfl rfl rfl (by decide +kernel) ⟨Nat.le_of_ble_eq_true rfl, Nat.le_of_ble_eq_true rfl⟩) ⟨zPx.blind, zPx.call hN hE hS⟩ rfl rfl hl.1 rfl (lv_room (Nat.le_of_ble_eq_true rfl)) dX0_within_4 ⟨Nat.le_refl _, Nat.le_refl _⟩) hS (fun _ _ h9 => h9) (fun _ h9 => h9) (fun _ _ h9 => h9) (fun E ce q9 u t H locs ht hvm hp hB hz1 hk1 hS hce hcv hcl => ?_) (fun u t H locs ht hvm hp hB hz1 hk1 hS => hp.elim)
  obtain ⟨rfl, hB2, hB3⟩ := hB
  exact vx_out (fun x9 h9 => (hnt x9 h9).elim) hlocks hce hcv hcl (fun t' h1 h2 => ⟨(), trivial, ⟨rfl, by rw [h1, ← ht]; exact hB2, fun q hq => by rw [h1, ← ht]; exact hB3 q hq⟩, hS.F h1⟩) hS.2.2 (Nat.le_refl _) (Nat.le_refl _)

set_option maxHeartbeats 4000000 in
set_option maxRecDepth 100000 in
theorem x_X0_within_2 (l : Launch) (hst : l.stackTraces = false) (N0 : Nat) (Hx : Heap) (h : Nat) (key : Int32) (md : Int32) (h1 : 0 ≤ key ∧ key ≤ 11) (h2 : ¬ (0 ≤ md ∧ md ≤ 7)) : vx_Met l yX0_within wsX0_within ({ frames := 8, cells := 1, slots := 6, locals := 124 }) (va_Pc [.ref h, .int key, .int md] (fun U => U.heap = Hx ∧ zPe N0 U)) (va_Qi (fun (_ : Int32) (_ : Unit) => False) (fun _ _ => True) (zA N0)) (vx_X (fun (_ : Unit) => True) (fun E _ t => E = xI ∧ Hx.size ≤ t.heap.size ∧ ∀ q : Nat, q < Hx.size → t.heap[q]? = Hx[q]?) (zA N0)) 1 6 (zA N0) := by
  refine vx_ofW (cc := cX0_within) (maxL := 3) (ret := (some .int)) (by decide) rfl ?_
  intro pr e s m ag below meth cd s₁ B hml hnt hv
  obtain ⟨rfl, rfl, hN, hE⟩ := hv
  have hx := B.exec
  have hb := B.bytes
  have hts := atoms_spec (ws := wsX0_within) B.pre
  have hown : s.vm.findClass RX0 = some m.cls := findClass_of_methodNamed B.named
  have hlocks := B.notSynchronized
  have hS : va_S (zA N0) s.heap s.heap [] := va_S.rf
  have hl := lv_entry ([.ref h, .int key, .int md]) (n := 3) (Nat.le_of_ble_eq_true rfl)
  rw [lg_entry_eq]
  generalize (lg_sl ([.ref h, .int key, .int md]) ++ List.replicate (3 - (lg_sl ([.ref h, .int key, .int md])).length) Slot.unset).toArray = ls at hl ⊢
  have hl : lv_has ls 3 [(0, .ref h), (1, .int key), (2, .int md)] := hl
  refine lv_iload_n hx hb dX0_within_0 rfl (lv_at hl 1 rfl) ?_
  refine lv_iconst (v := 0) hx hb dX0_within_1 (by decide) ?_
  refine lv_bipush (v := 11) hx hb dX0_within_2 (by decide) ?_
  refine va_csv ((va_runS (As := [.int key, .int 0, .int 11]) (rest := []) ⟨hx, hb, hml, hown, hts⟩ (c_X0_requireRange_v l key 0 11 h1) (va_cwS 3 hts gX0_within_X0_requireRange rfl rfl rfl (by decide +kernel) ⟨Nat.le_of_ble_eq_true rfl, Nat.le_of_ble_eq_true rfl⟩) ⟨zT.blind, zT.call⟩ rfl rfl hl.1 rfl (lv_room (Nat.le_of_ble_eq_true rfl)) dX0_within_4 ⟨Nat.zero_le _, Nat.zero_le _⟩).run) (fun _ => ?_)
  refine lv_iload_n hx hb dX0_within_7 rfl (lv_at hl 2 rfl) ?_
  refine lv_iconst (v := 0) hx hb dX0_within_8 (by decide) ?_
  refine lv_bipush (v := 7) hx hb dX0_within_9 (by decide) ?_
  refine vx_callv (vx_runS (As := [.int md, .int 0, .int 7]) (rest := []) ⟨hx, hb, hml, hown, hts⟩ (x_X0_requireRange l hst N0 s.heap md 0 7 h2) (va_cwS 3 hts gX0_within_X0_requireRange rfl rfl rfl (by decide +kernel) ⟨Nat.le_of_ble_eq_true rfl, Nat.le_of_ble_eq_true rfl⟩) ⟨zPx.blind, zPx.call hN hE hS⟩ rfl rfl hl.1 rfl (lv_room (Nat.le_of_ble_eq_true rfl)) dX0_within_11 ⟨Nat.le_refl _, Nat.le_refl _⟩) hS (fun _ _ h9 => h9) (fun _ h9 => h9) (fun _ _ h9 => h9) (fun E ce q9 u t H locs ht hvm hp hB hz1 hk1 hS hce hcv hcl => ?_) (fun u t H locs ht hvm hp hB hz1 hk1 hS => hp.elim)
  obtain ⟨rfl, hB2, hB3⟩ := hB
  exact vx_out (fun x9 h9 => (hnt x9 h9).elim) hlocks hce hcv hcl (fun t' h1 h2 => ⟨(), trivial, ⟨rfl, by rw [h1, ← ht]; exact hB2, fun q hq => by rw [h1, ← ht]; exact hB3 q hq⟩, hS.F h1⟩) hS.2.2 (Nat.le_refl _) (Nat.le_refl _)

set_option maxHeartbeats 4000000 in
set_option maxRecDepth 100000 in
theorem x_X0_sung_1 (l : Launch) (hst : l.stackTraces = false) (N0 : Nat) (Hx : Heap) (h : Nat) (k : Int32) (hk : ¬ (0 ≤ k ∧ k ≤ 11)) : vx_Met l yX0_sung wsX0_sung ({ frames := 8, cells := 1, slots := 6, locals := 124 }) (va_Pc [.ref h, .int k] (fun U => U.heap = Hx ∧ zPe N0 U)) (va_Qi (fun (_ : Int32) (_ : Unit) => False) (fun _ _ => True) (zA N0)) (vx_X (fun (_ : Unit) => True) (fun E _ t => E = xO ∧ Hx.size ≤ t.heap.size ∧ ∀ q : Nat, q < Hx.size → t.heap[q]? = Hx[q]?) (zA N0)) 1 6 (zA N0) := by
  refine vx_ofW (cc := cX0_sung) (maxL := 2) (ret := (some .int)) (by decide) rfl ?_
  intro pr e s m ag below meth cd s₁ B hml hnt hv
  obtain ⟨rfl, rfl, hN, hE⟩ := hv
  have hx := B.exec
  have hb := B.bytes
  have hts := atoms_spec (ws := wsX0_sung) B.pre
  have hown : s.vm.findClass RX0 = some m.cls := findClass_of_methodNamed B.named
  have hlocks := B.notSynchronized
  have hS : va_S (zA N0) s.heap s.heap [] := va_S.rf
  have hl := lv_entry ([.ref h, .int k]) (n := 2) (Nat.le_of_ble_eq_true rfl)
  rw [lg_entry_eq]
  generalize (lg_sl ([.ref h, .int k]) ++ List.replicate (2 - (lg_sl ([.ref h, .int k])).length) Slot.unset).toArray = ls at hl ⊢
  have hl : lv_has ls 2 [(0, .ref h), (1, .int k)] := hl
  refine lv_iload_n hx hb dX0_sung_0 rfl (lv_at hl 1 rfl) ?_
  refine lv_if_lt (tgt := 10) hx hb dX0_sung_1 (by decide) (fun c_1 => ?_) (fun c_1 => ?_)
  · obtain ⟨sa, hsa⟩ := hE.2.2.2.2.2.2.1
    have hat : ∀ w ∈ vx_atS RX0 79 xO ["java/lang/RuntimeException", "java/lang/Exception"], w.before _ s = true := vx_hat (fun w h9 => hts w (zx_in_X0_sung w h9)) zx_woO (hE.2.2.2.2.2.2.2.2.2.use)
    exact vx_throwS (cls := xO) (names := ["java/lang/RuntimeException", "java/lang/Exception"]) (ik := 75) (is := 95) (ic := 79) hx hb hst hown (by decide +kernel) (by decide +kernel) (hts (.classLink RX0 75 xO) (by decide +kernel)) (hts (.initialized xO) (by decide +kernel)) hsa hat zx_otO79 hE.2.1 hE.2.2.1 hS (hl.1.trans hml.symm) dX0_sung_10 dX0_sung_13 dX0_sung_14 dX0_sung_16 dX0_sung_19 (fun x9 h9 => (hnt x9 h9).elim) (Nat.le_of_ble_eq_true rfl) (Nat.le_of_ble_eq_true rfl) (Nat.le_of_ble_eq_true rfl) (Nat.le_of_ble_eq_true rfl) hlocks (fun t _ h8 h9 => ⟨(), trivial, ⟨rfl, h8, h9⟩, h8, fun q h6 _ => h9 q h6⟩) hS.2.2 (Nat.le_refl _) (Nat.le_refl _)
  · refine lv_iload_n hx hb dX0_sung_4 rfl (lv_at hl 1 rfl) ?_
    refine lv_bipush (v := 12) hx hb dX0_sung_5 (by decide) ?_
    refine lv_icmp_lt (tgt := 20) hx hb dX0_sung_7 (by decide) (fun c_7 => ?_) (fun c_7 => ?_)
    · exact absurd (zk_of (Int32.not_lt.mp c_1) c_7) hk
    · obtain ⟨sa, hsa⟩ := hE.2.2.2.2.2.2.1
      have hat : ∀ w ∈ vx_atS RX0 79 xO ["java/lang/RuntimeException", "java/lang/Exception"], w.before _ s = true := vx_hat (fun w h9 => hts w (zx_in_X0_sung w h9)) zx_woO (hE.2.2.2.2.2.2.2.2.2.use)
      exact vx_throwS (cls := xO) (names := ["java/lang/RuntimeException", "java/lang/Exception"]) (ik := 75) (is := 95) (ic := 79) hx hb hst hown (by decide +kernel) (by decide +kernel) (hts (.classLink RX0 75 xO) (by decide +kernel)) (hts (.initialized xO) (by decide +kernel)) hsa hat zx_otO79 hE.2.1 hE.2.2.1 hS (hl.1.trans hml.symm) dX0_sung_10 dX0_sung_13 dX0_sung_14 dX0_sung_16 dX0_sung_19 (fun x9 h9 => (hnt x9 h9).elim) (Nat.le_of_ble_eq_true rfl) (Nat.le_of_ble_eq_true rfl) (Nat.le_of_ble_eq_true rfl) (Nat.le_of_ble_eq_true rfl) hlocks (fun t _ h8 h9 => ⟨(), trivial, ⟨rfl, h8, h9⟩, h8, fun q h6 _ => h9 q h6⟩) hS.2.2 (Nat.le_refl _) (Nat.le_refl _)

set_option maxHeartbeats 4000000 in
set_option maxRecDepth 100000 in
theorem x_X0_rung_1 (l : Launch) (hst : l.stackTraces = false) (N0 : Nat) (Hx : Heap) (D : va_G) (cA cL : ClassId) (E : va_W) (d : Nat → Nat) (z : S7) (c : C5) (h : Nat) (num : Int32) (hc : okC c) (hv : zRg c num < 0) : vx_Met l yX0_rung wsX0_rung ({ frames := 8, cells := 1, slots := 6, locals := 124 }) (va_Pc [.ref h, .int num] (fun U => U.heap = Hx ∧ zPre D N0 cA cL (wX h d cA z c ++ E) U)) (va_Qi (fun (_ : Int32) (_ : Unit) => False) (fun _ _ => True) (zA N0)) (vx_X (fun (_ : Unit) => True) (fun E _ t => E = xO ∧ Hx.size ≤ t.heap.size ∧ ∀ q : Nat, q < Hx.size → t.heap[q]? = Hx[q]?) (zA N0)) 1 6 (zA N0) := by
  refine vx_ofW (cc := cX0_rung) (maxL := 4) (ret := (some .int)) (by decide) rfl ?_
  intro pr e s m ag below meth cd s₁ B hml hnt hv
  obtain ⟨rfl, rfl, hN, hP, hD, hK, hE⟩ := hv
  have hx := B.exec
  have hb := B.bytes
  have hts := atoms_spec (ws := wsX0_rung) B.pre
  have hown : s.vm.findClass RX0 = some m.cls := findClass_of_methodNamed B.named
  have hlocks := B.notSynchronized
  have hS : va_S (zA N0) s.heap s.heap [] := va_S.rf
  have hl := lv_entry ([.ref h, .int num]) (n := 4) (Nat.le_of_ble_eq_true rfl)
  rw [lg_entry_eq]
  generalize (lg_sl ([.ref h, .int num]) ++ List.replicate (4 - (lg_sl ([.ref h, .int num])).length) Slot.unset).toArray = ls at hl ⊢
  have hl : lv_has ls 4 [(0, .ref h), (1, .int num)] := hl
  have loop : ∀ (n : Nat) (k : Nat), k ≤ 121 → 122 ≤ k + n → ∀ (ls : Array Slot), lv_has ls 4 [(2, .int (zRcn c k)), (3, .int (nI (100 * k))), (0, .ref h), (1, .int num)] → W pr l e (headSpec wsX0_rung ({ frames := 8, cells := 1, slots := 6, locals := 124 })).room s m ([.ref h, .int num] : List Value).toArray below meth cd s.heap [] 0 0 (vx_MQ below (va_Qi (fun (_ : Int32) (_ : Unit) => False) (fun _ _ => True) (zA N0)) (vx_X (fun (_ : Unit) => True) (fun E _ t => E = xO ∧ s.heap.size ≤ t.heap.size ∧ ∀ q : Nat, q < s.heap.size → t.heap[q]? = s.heap[q]?) (zA N0)) ([.ref h, .int num] : List Value).toArray s 1 6 (zA N0)) (F0 m 4 ls []) := by
    intro n
    induction n with
    | zero =>
      intro k hk hn
      omega
    | succ n ih =>
      intro k hk hn ls hl
      refine lv_iload_n hx hb dX0_rung_4 rfl (lv_at hl 1 rfl) ?_
      refine lv_sipush (v := 12000) hx hb dX0_rung_5 (by decide) ?_
      refine lv_icmp_gt (tgt := 35) hx hb dX0_rung_8 (by decide) (fun c_8 => ?_) (fun c_8 => ?_)
      · have hk1 : k = 121 := by have := (nI_ltI (a := 12000) (by decide) (by omega)).mp c_8; omega
        subst hk1
        obtain ⟨sa, hsa⟩ := hE.2.2.2.2.2.1
        have hat : ∀ w ∈ vx_atS RX0 79 xO ["java/lang/RuntimeException", "java/lang/Exception"], w.before _ s = true := vx_hat (fun w h9 => hts w (zx_in_X0_rung w h9)) zx_woO (hE.2.2.2.2.2.2.2.2.2.use)
        exact vx_throwS (cls := xO) (names := ["java/lang/RuntimeException", "java/lang/Exception"]) (ik := 75) (is := 77) (ic := 79) hx hb hst hown (by decide +kernel) (by decide +kernel) (hts (.classLink RX0 75 xO) (by decide +kernel)) (hts (.initialized xO) (by decide +kernel)) hsa hat zx_otO79 hE.2.1 hE.2.2.1 hS (hl.1.trans hml.symm) dX0_rung_35 dX0_rung_38 dX0_rung_39 dX0_rung_41 dX0_rung_44 (fun x9 h9 => (hnt x9 h9).elim) (Nat.le_of_ble_eq_true rfl) (Nat.le_of_ble_eq_true rfl) (Nat.le_of_ble_eq_true rfl) (Nat.le_of_ble_eq_true rfl) hlocks (fun t _ h8 h9 => ⟨(), trivial, ⟨rfl, h8, h9⟩, h8, fun q h6 _ => h9 q h6⟩) hS.2.2 (Nat.le_refl _) (Nat.le_refl _)
      · have hk1 : k < 121 := by
          rcases Nat.lt_or_ge k 121 with q | q
          · exact q
          · exact absurd ((nI_ltI (a := 12000) (by decide) (by omega)).mpr (by omega)) c_8
        refine lv_aload_n hx hb dX0_rung_11 rfl (lv_at hl 2 rfl) ?_
        refine lv_iload_n hx hb dX0_rung_12 rfl (lv_at hl 1 rfl) ?_
        refine vp_callSi ((va_runV (As := [.int (nI (100 * k))]) (rest := []) ⟨hx, hb, hml, hown, hts⟩ (c_X0_isRung l D N0 cA cL E h d z c (nI (100 * k)) hc) (cwV 1 hts gX0_rung_X0_isRung rfl rfl rfl (by decide +kernel) ⟨Nat.le_of_ble_eq_true rfl, Nat.le_of_ble_eq_true rfl⟩) ⟨zPre.blind, va_recv hK hP (ci := 0) (q0 := 0) rfl rfl, zPre.call hN hP hD hK hE hS⟩ rfl rfl hl.1 rfl (lv_room (Nat.le_of_ble_eq_true rfl)) dX0_rung_13 ⟨Nat.zero_le _, Nat.zero_le _⟩).run) (fun r_13 h_13 => ?_)
        have h_13 : r_13 = (zb (¬ zStep c (nI (100 * k)) = -1)) := h_13
        subst h_13
        refine lv_if_eq (tgt := 29) hx hb dX0_rung_16 (by decide) (fun c_16 => ?_) (fun c_16 => ?_)
        · refine lv_iinc (v := (nI (100 * (k + 1)))) (lv' := [(3, .int (nI (100 * (k + 1)))), (2, .int (zRcn c k)), (0, .ref h), (1, .int num)]) hx hb dX0_rung_29 hl (k := 1) rfl (z_inc (100 * k) 100) (by decide) rfl (fun ls hl => ?_)
          refine lv_goto (tgt := 4) hx hb dX0_rung_32 (by decide) ?_
          have hl : lv_has ls 4 [(3, .int (nI (100 * (k + 1)))), (2, .int (zRcn c (k + 1))), (0, .ref h), (1, .int num)] := by
            rw [show ((zRcn c (k + 1)) : Int32) = (zRcn c k) from (zRcn_0 ((zStep_neg hc _).mpr (Decidable.not_not.mp (zb_f c_16))))]
            exact hl
          exact ih (k + 1) (by omega) (by omega) ls (lv_sub hl [1, 0, 2, 3] rfl)
        · refine lv_iload_n hx hb dX0_rung_19 rfl (lv_at hl 0 rfl) ?_
          refine lv_iload_n hx hb dX0_rung_20 rfl (lv_at hl 3 rfl) ?_
          refine lv_icmp_ne (tgt := 26) hx hb dX0_rung_21 (by decide) (fun c_21 => ?_) (fun c_21 => ?_)
          · refine lv_iinc (v := ((zRcn c k) + 1)) (lv' := [(2, .int ((zRcn c k) + 1)), (3, .int (nI (100 * k))), (0, .ref h), (1, .int num)]) hx hb dX0_rung_26 hl (k := 0) rfl rfl (by decide) rfl (fun ls hl => ?_)
            refine lv_iinc (v := (nI (100 * (k + 1)))) (lv' := [(3, .int (nI (100 * (k + 1)))), (2, .int ((zRcn c k) + 1)), (0, .ref h), (1, .int num)]) hx hb dX0_rung_29 hl (k := 1) rfl (z_inc (100 * k) 100) (by decide) rfl (fun ls hl => ?_)
            refine lv_goto (tgt := 4) hx hb dX0_rung_32 (by decide) ?_
            have hl : lv_has ls 4 [(3, .int (nI (100 * (k + 1)))), (2, .int (zRcn c (k + 1))), (0, .ref h), (1, .int num)] := by
              rw [show ((zRcn c (k + 1)) : Int32) = ((zRcn c k) + 1) from (zRcn_1 (fun q => zb_t c_16 ((zStep_neg hc _).mp q)))]
              exact hl
            exact ih (k + 1) (by omega) (by omega) ls (lv_sub hl [1, 0, 2, 3] rfl)
          · refine lv_iload_n hx hb dX0_rung_24 rfl (lv_at hl 1 rfl) ?_
            exact absurd (show zRg c num < 0 from hv) (by rw [zRg_hit hk1 (fun q => zb_t c_16 ((zStep_neg hc _).mp q)) c_21.symm]; exact nI_pos (by omega))
  refine lv_iconst (v := 0) hx hb dX0_rung_0 (by decide) ?_
  refine lv_istore_n (lv' := [(2, .int 0), (0, .ref h), (1, .int num)]) hx hb dX0_rung_1 rfl hl (by decide) rfl (fun ls hl => ?_)
  refine lv_iconst (v := 0) hx hb dX0_rung_2 (by decide) ?_
  refine lv_istore_n (lv' := [(3, .int 0), (2, .int 0), (0, .ref h), (1, .int num)]) hx hb dX0_rung_3 rfl hl (by decide) rfl (fun ls hl => ?_)
  exact loop 122 0 (by decide) (by decide) ls (lv_sub hl [1, 0, 2, 3] rfl)
