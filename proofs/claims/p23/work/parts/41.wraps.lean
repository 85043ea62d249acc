theorem x_X0_setScale_I (l : Launch) (hst : l.stackTraces = false) (N0 : Nat) (Hx : Heap) (h : Nat) (key : Int32) (md : Int32) (hn : ¬ ((0 ≤ key ∧ key ≤ 11) ∧ (0 ≤ md ∧ md ≤ 7))) : vx_Met l yX0_setScale wsX0_setScale ({ frames := 8, cells := 1, slots := 6, locals := 124 }) (va_Pc [.ref h, .int key, .int md] (fun U => U.heap = Hx ∧ zPe N0 U)) (va_Qi (fun (_ : Int32) (_ : Unit) => False) (fun _ _ => True) (zA N0)) (vx_X (fun (_ : Unit) => True) (fun E _ t => E = xI ∧ Hx.size ≤ t.heap.size ∧ ∀ q : Nat, q < Hx.size → t.heap[q]? = Hx[q]?) (zA N0)) 1 6 (zA N0) := by
  by_cases h1 : (0 ≤ key ∧ key ≤ 11)
  · skip
    exact x_X0_setScale_2 l hst N0 Hx h key md h1 (fun q => hn ⟨h1, q⟩)
  · exact x_X0_setScale_1 l hst N0 Hx h key md  h1

theorem x_X0_within_I (l : Launch) (hst : l.stackTraces = false) (N0 : Nat) (Hx : Heap) (h : Nat) (key : Int32) (md : Int32) (hn : ¬ ((0 ≤ key ∧ key ≤ 11) ∧ (0 ≤ md ∧ md ≤ 7))) : vx_Met l yX0_within wsX0_within ({ frames := 8, cells := 1, slots := 6, locals := 124 }) (va_Pc [.ref h, .int key, .int md] (fun U => U.heap = Hx ∧ zPe N0 U)) (va_Qi (fun (_ : Int32) (_ : Unit) => False) (fun _ _ => True) (zA N0)) (vx_X (fun (_ : Unit) => True) (fun E _ t => E = xI ∧ Hx.size ≤ t.heap.size ∧ ∀ q : Nat, q < Hx.size → t.heap[q]? = Hx[q]?) (zA N0)) 1 6 (zA N0) := by
  by_cases h1 : (0 ≤ key ∧ key ≤ 11)
  · skip
    exact x_X0_within_2 l hst N0 Hx h key md h1 (fun q => hn ⟨h1, q⟩)
  · exact x_X0_within_1 l hst N0 Hx h key md  h1

theorem x_X0_setNudging_I (l : Launch) (hst : l.stackTraces = false) (N0 : Nat) (Hx : Heap) (h : Nat) (sp : Int32) (le : Int32) (gl : Int32) (hn : ¬ ((0 ≤ sp ∧ sp ≤ 100) ∧ (0 ≤ le ∧ le ≤ 600) ∧ (0 ≤ gl ∧ gl ≤ 12000))) : vx_Met l yX0_setNudging wsX0_setNudging ({ frames := 8, cells := 1, slots := 6, locals := 124 }) (va_Pc [.ref h, .int sp, .int le, .int gl] (fun U => U.heap = Hx ∧ zPe N0 U)) (va_Qv (fun (_ : Unit) => False) (fun _ _ => True) (zA N0)) (vx_X (fun (_ : Unit) => True) (fun E _ t => E = xI ∧ Hx.size ≤ t.heap.size ∧ ∀ q : Nat, q < Hx.size → t.heap[q]? = Hx[q]?) (zA N0)) 1 6 (zA N0) := by
  by_cases h1 : 0 ≤ sp ∧ sp ≤ 100
  · skip
    by_cases h2 : 0 ≤ le ∧ le ≤ 600
    · skip
      exact x_X0_setNudging_3 l hst N0 Hx h sp le gl h1 h2 (fun q => hn ⟨h1, h2, q⟩)
    · exact x_X0_setNudging_2 l hst N0 Hx h sp le gl h1 h2
  · exact x_X0_setNudging_1 l hst N0 Hx h sp le gl  h1

theorem x_X0_slide_I (l : Launch) (hst : l.stackTraces = false) (N0 : Nat) (Hx : Heap) (h : Nat) (w : Int32) (a : Int32) (b : Int32) (f : Int32) (hw : zw w) (hn : ¬ (zp a ∧ zp b ∧ (2 ≤ f ∧ f ≤ 50))) : vx_Met l yX0_slide wsX0_slide ({ frames := 8, cells := 1, slots := 6, locals := 124 }) (va_Pc [.ref h, .int w, .int a, .int b, .int f] (fun U => U.heap = Hx ∧ zPe N0 U)) (va_Qi (fun (_ : Int32) (_ : Unit) => False) (fun _ _ => True) (zA N0)) (vx_X (fun (_ : Unit) => True) (fun E _ t => E = xI ∧ Hx.size ≤ t.heap.size ∧ ∀ q : Nat, q < Hx.size → t.heap[q]? = Hx[q]?) (zA N0)) 1 6 (zA N0) := by
  by_cases h2 : zp a
  · skip
    by_cases h3 : zp b
    · skip
      exact x_X0_slide_4 l hst N0 Hx h w a b f hw h2 h3 (fun q => hn ⟨h2, h3, q⟩)
    · exact x_X0_slide_3 l hst N0 Hx h w a b f hw h2 h3
  · exact x_X0_slide_2 l hst N0 Hx h w a b f hw h2

set_option maxHeartbeats 4000000 in
set_option maxRecDepth 100000 in
theorem c_L_scale_v (l : Launch) (D : va_G) (N0 : Nat) (cA cL : ClassId) (E : va_W) (h : Nat) (d : Nat → Nat) (z : S7) (c : C5) (k2 m2 : Nat) (hc : okC c) (hk2 : k2 < 12) (hm2 : m2 < 8) : Met l yL_scale wsL_scale ({ frames := 5, cells := 0, slots := 0, locals := 113 }) (va_Pc [.ref h, .int (nI k2), .int (nI m2)] (zPre D N0 cA cL (wX h d cA z c ++ E))) (va_Qi (fun (rv : Int32) (_ : Unit) => rv = (zL (k2, m2, c.2.2.1, c.2.2.2.1, c.2.2.2.2) z.1).2) (fun _ t => zPost D N0 (wX h d cA ((zL (k2, m2, c.2.2.1, c.2.2.2.1, c.2.2.2.2) z.1).1, z.2.1, z.2.2.1, z.2.2.2.1, z.2.2.2.2.1, z.2.2.2.2.2.1, z.2.2.2.2.2.2) (k2, m2, c.2.2.1, c.2.2.2.1, c.2.2.2.2) ++ E) t) (zA N0)) 0 0 (zA N0) := by
  refine va_MetW (cc := cL_scale) (maxL := 4) (ret := (some .int)) (by decide) rfl ?_
  intro pr e s m ag below meth cd s₁ B hml hv
  obtain ⟨rfl, hN, hP, hD, hK, hE⟩ := hv
  have hx := B.exec
  have hb := B.bytes
  have hr := B.returns
  have hts := atoms_spec (ws := wsL_scale) B.pre
  have hown : s.vm.findClass RL = some m.cls := findClass_of_methodNamed B.named
  have hlocks := B.notSynchronized
  have hS : va_S (zA N0) s.heap s.heap [] := va_S.rf
  have hl := lv_entry ([.ref h, .int (nI k2), .int (nI m2)]) (n := 4) (Nat.le_of_ble_eq_true rfl)
  rw [lg_entry_eq]
  generalize (lg_sl ([.ref h, .int (nI k2), .int (nI m2)]) ++ List.replicate (4 - (lg_sl ([.ref h, .int (nI k2), .int (nI m2)])).length) Slot.unset).toArray = ls at hl ⊢
  have hl : lv_has ls 4 [(0, .ref h), (1, .int (nI k2)), (2, .int (nI m2))] := hl
  refine lv_aload_n hx hb dL_scale_0 rfl (lv_at hl 0 rfl) ?_
  refine lv_iload_n hx hb dL_scale_1 rfl (lv_at hl 1 rfl) ?_
  refine lv_iload_n hx hb dL_scale_2 rfl (lv_at hl 2 rfl) ?_
  refine va_calli (va_runV (As := [.int (nI k2), .int (nI m2)]) (rest := []) ⟨hx, hb, hml, hown, hts⟩ (c_X0_setScale_v l D N0 cA cL E h d z c k2 m2 hc hk2 hm2) (cwV 2 hts gL_scale_X0_setScale rfl rfl rfl (by decide +kernel) ⟨Nat.le_of_ble_eq_true rfl, Nat.le_of_ble_eq_true rfl⟩) ⟨zPre.blind, va_recv hK hP (ci := 0) (q0 := 0) rfl rfl, zPre.call hN hP hD hK hE hS⟩ rfl rfl hl.1 rfl (lv_room (Nat.le_of_ble_eq_true rfl)) dL_scale_3 ⟨Nat.zero_le _, Nat.zero_le _⟩) hS (fun _ _ h9 => h9) (fun _ h9 => h9) (fun r_3 _ t H locs ht hvm h_3 hB hz1 hk1 hS => ?_)
  have h_3 : r_3 = ((zL (k2, m2, c.2.2.1, c.2.2.2.1, c.2.2.2.2) z.1).2) := h_3
  subst h_3
  obtain ⟨hP, hD⟩ := hB
  rw [ht] at hP
  have hP : va_P D vwCl (wX h d cA ((zL (k2, m2, c.2.2.1, c.2.2.2.1, c.2.2.2.2) z.1).1, z.2.1, z.2.2.1, z.2.2.2.1, z.2.2.2.2.1, z.2.2.2.2.2.1, z.2.2.2.2.2.2) (k2, m2, c.2.2.1, c.2.2.2.1, c.2.2.2.2) ++ E) H := hP
  have hD : va_D (zA N0) (wX h d cA ((zL (k2, m2, c.2.2.1, c.2.2.2.1, c.2.2.2.2) z.1).1, z.2.1, z.2.2.1, z.2.2.2.1, z.2.2.2.2.1, z.2.2.2.2.2.1, z.2.2.2.2.2.2) (k2, m2, c.2.2.1, c.2.2.2.1, c.2.2.2.2) ++ E) := hD
  exact W.iret (v := ((zL (k2, m2, c.2.2.1, c.2.2.2.1, c.2.2.2.2) z.1).2)) hx hb hr (fun t ht hW => ⟨⟨_, (), rfl, rfl, ⟨by rw [ht]; exact hP, hD⟩⟩, hS.F ht⟩) hS.2.2 dL_scale_6

set_option maxHeartbeats 4000000 in
set_option maxRecDepth 100000 in
theorem c_L_scale_1 (l : Launch) (hst : l.stackTraces = false) (D : va_G) (N0 : Nat) (cA cL : ClassId) (E : va_W) (h : Nat) (d : Nat → Nat) (z : S7) (c : C5) (key md : Int32) (hn : ¬ ((0 ≤ key ∧ key ≤ 11) ∧ (0 ≤ md ∧ md ≤ 7))) : Met l yL_scale wsL_scale ({ frames := 9, cells := 1, slots := 6, locals := 148 }) (va_Pc [.ref h, .int key, .int md] (zPre D N0 cA cL (wX h d cA z c ++ E))) (va_Qi (fun (rv : Int32) (_ : Unit) => rv = (-99999)) (fun _ t => zPost D N0 (wX h d cA z c ++ E) t) (zA N0)) 1 6 (zA N0) := by
  refine va_MetW (cc := cL_scale) (maxL := 4) (ret := (some .int)) (by decide) rfl ?_
  intro pr e s m ag below meth cd s₁ B hml hv
  obtain ⟨rfl, hN, hP, hD, hK, hE⟩ := hv
  have hx := B.exec
  have hb := B.bytes
  have hr := B.returns
  have hts := atoms_spec (ws := wsL_scale) B.pre
  have hown : s.vm.findClass RL = some m.cls := findClass_of_methodNamed B.named
  have hlocks := B.notSynchronized
  have htab := vx_table (x := yL_scale) B (hts (.codeWith yL_scale cL_scale 4 (some .int) [(0, 6, 7, 17)]) List.mem_cons_self)
  have hS : va_S (zA N0) s.heap s.heap [] := va_S.rf
  have hl := lv_entry ([.ref h, .int key, .int md]) (n := 4) (Nat.le_of_ble_eq_true rfl)
  rw [lg_entry_eq]
  generalize (lg_sl ([.ref h, .int key, .int md]) ++ List.replicate (4 - (lg_sl ([.ref h, .int key, .int md])).length) Slot.unset).toArray = ls at hl ⊢
  have hl : lv_has ls 4 [(0, .ref h), (1, .int key), (2, .int md)] := hl
  refine lv_aload_n hx hb dL_scale_0 rfl (lv_at hl 0 rfl) ?_
  refine lv_iload_n hx hb dL_scale_1 rfl (lv_at hl 1 rfl) ?_
  refine lv_iload_n hx hb dL_scale_2 rfl (lv_at hl 2 rfl) ?_
  refine vx_calli (vx_runV (As := [.int key, .int md]) (rest := []) ⟨hx, hb, hml, hown, hts⟩ (x_X0_setScale_I l hst N0 s.heap h key md hn) (cwV 2 hts gL_scale_X0_setScale rfl rfl rfl (by decide +kernel) ⟨Nat.le_of_ble_eq_true rfl, Nat.le_of_ble_eq_true rfl⟩) ⟨zPx.blind, va_recv hK hP (ci := 0) (q0 := 0) rfl rfl, zPx.call hN hE hS⟩ rfl rfl hl.1 rfl (lv_room (Nat.le_of_ble_eq_true rfl)) dL_scale_3 ⟨Nat.le_refl _, Nat.le_refl _⟩) hS (fun _ _ h9 => h9) (fun _ h9 => h9) (fun _ _ h9 => h9) (fun Ex ce q9 u t H locs ht hvm hp9 hB hz1 hk1 hS hce hcv hcl => ?_) (fun r u t H locs ht hvm hp9 hB hz1 hk1 hS => hp9.elim)
  obtain ⟨rfl, hB2, hB3⟩ := hB
  have hP : va_P D vwCl (wX h d cA z c ++ E) H := hP.kept (fun k q hq => by rw [← ht]; exact hB3 q.1 ((hP k q hq).lt))
  refine vx_catch (name := xI) hown [] (⟨0, 6, 7, 17⟩ : ExceptionTableEntry) [] (htab.trans rfl) (fun z9 h9 => nomatch h9) (by decide) (by decide) (hts (.classLink RL 17 xI) (by decide +kernel)) (va_Nw.use rfl hE.2.2.2.2.2.2.2.2.2.1) hce hcv hcl ?_
  refine lv_astore_n (lv' := [(3, .ref q9), (0, .ref h), (1, .int key), (2, .int md)]) hx hb dL_scale_7 rfl hl (by decide) rfl (fun ls hl => ?_)
  refine lv_ldc (v := (-99999)) hx hb hown (hts (.constant RL 16 (-99999)) (by decide +kernel)) dL_scale_8 ?_
  exact W.iret (v := (-99999)) hx hb hr (fun t ht hW => ⟨⟨_, (), rfl, rfl, ⟨by rw [ht]; exact hP, hD⟩⟩, hS.F ht⟩) hS.2.2 dL_scale_10

set_option maxHeartbeats 4000000 in
set_option maxRecDepth 100000 in
theorem c_L_nudge_v (l : Launch) (D : va_G) (N0 : Nat) (cA cL : ClassId) (E : va_W) (h : Nat) (d : Nat → Nat) (z : S7) (c : C5) (sp le gl : Int32) (h1 : 0 ≤ sp ∧ sp ≤ 100) (h2 : 0 ≤ le ∧ le ≤ 600) (h3 : 0 ≤ gl ∧ gl ≤ 12000) : Met l yL_nudge wsL_nudge ({ frames := 2, cells := 0, slots := 0, locals := 45 }) (va_Pc [.ref h, .int sp, .int le, .int gl] (zPre D N0 cA cL (wX h d cA z c ++ E))) (va_Qi (fun (rv : Int32) (_ : Unit) => rv = 1) (fun _ t => zPost D N0 (wX h d cA z (c.1, c.2.1, sp, le, gl) ++ E) t) (zA N0)) 0 0 (zA N0) := by
  refine va_MetW (cc := cL_nudge) (maxL := 5) (ret := (some .boolean)) (by decide) rfl ?_
  intro pr e s m ag below meth cd s₁ B hml hv
  obtain ⟨rfl, hN, hP, hD, hK, hE⟩ := hv
  have hx := B.exec
  have hb := B.bytes
  have hr := B.returns
  have hts := atoms_spec (ws := wsL_nudge) B.pre
  have hown : s.vm.findClass RL = some m.cls := findClass_of_methodNamed B.named
  have hlocks := B.notSynchronized
  have hS : va_S (zA N0) s.heap s.heap [] := va_S.rf
  have hl := lv_entry ([.ref h, .int sp, .int le, .int gl]) (n := 5) (Nat.le_of_ble_eq_true rfl)
  rw [lg_entry_eq]
  generalize (lg_sl ([.ref h, .int sp, .int le, .int gl]) ++ List.replicate (5 - (lg_sl ([.ref h, .int sp, .int le, .int gl])).length) Slot.unset).toArray = ls at hl ⊢
  have hl : lv_has ls 5 [(0, .ref h), (1, .int sp), (2, .int le), (3, .int gl)] := hl
  refine lv_aload_n hx hb dL_nudge_0 rfl (lv_at hl 0 rfl) ?_
  refine lv_iload_n hx hb dL_nudge_1 rfl (lv_at hl 1 rfl) ?_
  refine lv_iload_n hx hb dL_nudge_2 rfl (lv_at hl 2 rfl) ?_
  refine lv_iload_n hx hb dL_nudge_3 rfl (lv_at hl 3 rfl) ?_
  refine va_callv (va_runV (As := [.int sp, .int le, .int gl]) (rest := []) ⟨hx, hb, hml, hown, hts⟩ (c_X0_setNudging_v l D N0 cA cL E h d z c sp le gl h1 h2 h3) (cwV 3 hts gL_nudge_X0_setNudging rfl rfl rfl (by decide +kernel) ⟨Nat.le_of_ble_eq_true rfl, Nat.le_of_ble_eq_true rfl⟩) ⟨zPre.blind, va_recv hK hP (ci := 0) (q0 := 0) rfl rfl, zPre.call hN hP hD hK hE hS⟩ rfl rfl hl.1 rfl (lv_room (Nat.le_of_ble_eq_true rfl)) dL_nudge_4 ⟨Nat.zero_le _, Nat.zero_le _⟩) hS (fun _ _ h9 => h9) (fun _ h9 => h9) (fun _ t H locs ht hvm h_4 hB hz1 hk1 hS => ?_)
  obtain ⟨hP, hD⟩ := hB
  rw [ht] at hP
  have hP : va_P D vwCl (wX h d cA z (c.1, c.2.1, sp, le, gl) ++ E) H := hP
  have hD : va_D (zA N0) (wX h d cA z (c.1, c.2.1, sp, le, gl) ++ E) := hD
  refine lv_goto (tgt := 14) hx hb dL_nudge_7 (by decide) ?_
  refine lv_iconst (v := 1) hx hb dL_nudge_14 (by decide) ?_
  exact W.zret (v := 1) hx hb hr rfl (fun t ht hW => ⟨⟨_, (), rfl, rfl, ⟨by rw [ht]; exact hP, hD⟩⟩, hS.F ht⟩) hS.2.2 dL_nudge_15

set_option maxHeartbeats 4000000 in
set_option maxRecDepth 100000 in
theorem c_L_nudge_1 (l : Launch) (hst : l.stackTraces = false) (D : va_G) (N0 : Nat) (cA cL : ClassId) (E : va_W) (h : Nat) (d : Nat → Nat) (z : S7) (c : C5) (sp le gl : Int32) (hn : ¬ ((0 ≤ sp ∧ sp ≤ 100) ∧ (0 ≤ le ∧ le ≤ 600) ∧ (0 ≤ gl ∧ gl ≤ 12000))) : Met l yL_nudge wsL_nudge ({ frames := 9, cells := 1, slots := 6, locals := 147 }) (va_Pc [.ref h, .int sp, .int le, .int gl] (zPre D N0 cA cL (wX h d cA z c ++ E))) (va_Qi (fun (rv : Int32) (_ : Unit) => rv = 0) (fun _ t => zPost D N0 (wX h d cA z c ++ E) t) (zA N0)) 1 6 (zA N0) := by
  refine va_MetW (cc := cL_nudge) (maxL := 5) (ret := (some .boolean)) (by decide) rfl ?_
  intro pr e s m ag below meth cd s₁ B hml hv
  obtain ⟨rfl, hN, hP, hD, hK, hE⟩ := hv
  have hx := B.exec
  have hb := B.bytes
  have hr := B.returns
  have hts := atoms_spec (ws := wsL_nudge) B.pre
  have hown : s.vm.findClass RL = some m.cls := findClass_of_methodNamed B.named
  have hlocks := B.notSynchronized
  have htab := vx_table (x := yL_nudge) B (hts (.codeWith yL_nudge cL_nudge 5 (some .boolean) [(0, 7, 10, 17)]) List.mem_cons_self)
  have hS : va_S (zA N0) s.heap s.heap [] := va_S.rf
  have hl := lv_entry ([.ref h, .int sp, .int le, .int gl]) (n := 5) (Nat.le_of_ble_eq_true rfl)
  rw [lg_entry_eq]
  generalize (lg_sl ([.ref h, .int sp, .int le, .int gl]) ++ List.replicate (5 - (lg_sl ([.ref h, .int sp, .int le, .int gl])).length) Slot.unset).toArray = ls at hl ⊢
  have hl : lv_has ls 5 [(0, .ref h), (1, .int sp), (2, .int le), (3, .int gl)] := hl
  refine lv_aload_n hx hb dL_nudge_0 rfl (lv_at hl 0 rfl) ?_
  refine lv_iload_n hx hb dL_nudge_1 rfl (lv_at hl 1 rfl) ?_
  refine lv_iload_n hx hb dL_nudge_2 rfl (lv_at hl 2 rfl) ?_
  refine lv_iload_n hx hb dL_nudge_3 rfl (lv_at hl 3 rfl) ?_
  refine vx_callv (vx_runV (As := [.int sp, .int le, .int gl]) (rest := []) ⟨hx, hb, hml, hown, hts⟩ (x_X0_setNudging_I l hst N0 s.heap h sp le gl hn) (cwV 3 hts gL_nudge_X0_setNudging rfl rfl rfl (by decide +kernel) ⟨Nat.le_of_ble_eq_true rfl, Nat.le_of_ble_eq_true rfl⟩) ⟨zPx.blind, va_recv hK hP (ci := 0) (q0 := 0) rfl rfl, zPx.call hN hE hS⟩ rfl rfl hl.1 rfl (lv_room (Nat.le_of_ble_eq_true rfl)) dL_nudge_4 ⟨Nat.le_refl _, Nat.le_refl _⟩) hS (fun _ _ h9 => h9) (fun _ h9 => h9) (fun _ _ h9 => h9) (fun Ex ce q9 u t H locs ht hvm hp9 hB hz1 hk1 hS hce hcv hcl => ?_) (fun u t H locs ht hvm hp9 hB hz1 hk1 hS => hp9.elim)
  obtain ⟨rfl, hB2, hB3⟩ := hB
  have hP : va_P D vwCl (wX h d cA z c ++ E) H := hP.kept (fun k q hq => by rw [← ht]; exact hB3 q.1 ((hP k q hq).lt))
  refine vx_catch (name := xI) hown [] (⟨0, 7, 10, 17⟩ : ExceptionTableEntry) [] (htab.trans rfl) (fun z9 h9 => nomatch h9) (by decide) (by decide) (hts (.classLink RL 17 xI) (by decide +kernel)) (va_Nw.use rfl hE.2.2.2.2.2.2.2.2.2.1) hce hcv hcl ?_
  refine lv_astore (lv' := [(4, .ref q9), (0, .ref h), (1, .int sp), (2, .int le), (3, .int gl)]) hx hb dL_nudge_10 hl (by decide) rfl (fun ls hl => ?_)
  refine lv_iconst (v := 0) hx hb dL_nudge_12 (by decide) ?_
  exact W.zret (v := 0) hx hb hr rfl (fun t ht hW => ⟨⟨_, (), rfl, rfl, ⟨by rw [ht]; exact hP, hD⟩⟩, hS.F ht⟩) hS.2.2 dL_nudge_13

set_option maxHeartbeats 4000000 in
set_option maxRecDepth 100000 in
theorem c_L_sing_v (l : Launch) (D : va_G) (N0 : Nat) (cA cL : ClassId) (E : va_W) (h : Nat) (d : Nat → Nat) (z : S7) (c : C5) (w p : Int32) (hc : okC c) (hw : zw w) (hp : zp p) : Met l yL_sing wsL_sing ({ frames := 8, cells := 0, slots := 0, locals := 183 }) (va_Pc [.ref h, .int w, .int p] (zPre D N0 cA cL (wX h d cA z c ++ E))) (va_Qi (fun (rv : Int32) (_ : Unit) => rv = zOut c w.toNatClampNeg p z) (fun _ t => zPost D N0 (wX h d cA (zSg c w.toNatClampNeg p z) c ++ E) t) (zA N0)) 0 0 (zA N0) := by
  refine va_MetW (cc := cL_sing) (maxL := 4) (ret := (some .int)) (by decide) rfl ?_
  intro pr e s m ag below meth cd s₁ B hml hv
  obtain ⟨rfl, hN, hP, hD, hK, hE⟩ := hv
  have hx := B.exec
  have hb := B.bytes
  have hr := B.returns
  have hts := atoms_spec (ws := wsL_sing) B.pre
  have hown : s.vm.findClass RL = some m.cls := findClass_of_methodNamed B.named
  have hlocks := B.notSynchronized
  have hS : va_S (zA N0) s.heap s.heap [] := va_S.rf
  have hl := lv_entry ([.ref h, .int w, .int p]) (n := 4) (Nat.le_of_ble_eq_true rfl)
  rw [lg_entry_eq]
  generalize (lg_sl ([.ref h, .int w, .int p]) ++ List.replicate (4 - (lg_sl ([.ref h, .int w, .int p])).length) Slot.unset).toArray = ls at hl ⊢
  have hl : lv_has ls 4 [(0, .ref h), (1, .int w), (2, .int p)] := hl
  refine lv_aload_n hx hb dL_sing_0 rfl (lv_at hl 0 rfl) ?_
  refine lv_iload_n hx hb dL_sing_1 rfl (lv_at hl 1 rfl) ?_
  refine lv_iload_n hx hb dL_sing_2 rfl (lv_at hl 2 rfl) ?_
  refine va_calli (va_runV (As := [.int w, .int p]) (rest := []) ⟨hx, hb, hml, hown, hts⟩ (c_X0_sing_v l D N0 cA cL E h d z c w p hc hw hp) (cwV 2 hts gL_sing_X0_sing rfl rfl rfl (by decide +kernel) ⟨Nat.le_of_ble_eq_true rfl, Nat.le_of_ble_eq_true rfl⟩) ⟨zPre.blind, va_recv hK hP (ci := 0) (q0 := 0) rfl rfl, zPre.call hN hP hD hK hE hS⟩ rfl rfl hl.1 rfl (lv_room (Nat.le_of_ble_eq_true rfl)) dL_sing_3 ⟨Nat.zero_le _, Nat.zero_le _⟩) hS (fun _ _ h9 => h9) (fun _ h9 => h9) (fun r_3 _ t H locs ht hvm h_3 hB hz1 hk1 hS => ?_)
  have h_3 : r_3 = (zOut c w.toNatClampNeg p z) := h_3
  subst h_3
  obtain ⟨hP, hD⟩ := hB
  rw [ht] at hP
  have hP : va_P D vwCl (wX h d cA (zSg c w.toNatClampNeg p z) c ++ E) H := hP
  have hD : va_D (zA N0) (wX h d cA (zSg c w.toNatClampNeg p z) c ++ E) := hD
  exact W.iret (v := (zOut c w.toNatClampNeg p z)) hx hb hr (fun t ht hW => ⟨⟨_, (), rfl, rfl, ⟨by rw [ht]; exact hP, hD⟩⟩, hS.F ht⟩) hS.2.2 dL_sing_6

set_option maxHeartbeats 4000000 in
set_option maxRecDepth 100000 in
theorem c_L_sing_1 (l : Launch) (hst : l.stackTraces = false) (D : va_G) (N0 : Nat) (cA cL : ClassId) (E : va_W) (h : Nat) (d : Nat → Nat) (z : S7) (c : C5) (w p : Int32) (hw : ¬ zw w) : Met l yL_sing wsL_sing ({ frames := 9, cells := 1, slots := 6, locals := 146 }) (va_Pc [.ref h, .int w, .int p] (zPre D N0 cA cL (wX h d cA z c ++ E))) (va_Qi (fun (rv : Int32) (_ : Unit) => rv = (-99999)) (fun _ t => zPost D N0 (wX h d cA z c ++ E) t) (zA N0)) 1 6 (zA N0) := by
  refine va_MetW (cc := cL_sing) (maxL := 4) (ret := (some .int)) (by decide) rfl ?_
  intro pr e s m ag below meth cd s₁ B hml hv
  obtain ⟨rfl, hN, hP, hD, hK, hE⟩ := hv
  have hx := B.exec
  have hb := B.bytes
  have hr := B.returns
  have hts := atoms_spec (ws := wsL_sing) B.pre
  have hown : s.vm.findClass RL = some m.cls := findClass_of_methodNamed B.named
  have hlocks := B.notSynchronized
  have htab := vx_table (x := yL_sing) B (hts (.codeWith yL_sing cL_sing 4 (some .int) [(0, 6, 7, 14), (0, 6, 11, 17)]) List.mem_cons_self)
  have hS : va_S (zA N0) s.heap s.heap [] := va_S.rf
  have hl := lv_entry ([.ref h, .int w, .int p]) (n := 4) (Nat.le_of_ble_eq_true rfl)
  rw [lg_entry_eq]
  generalize (lg_sl ([.ref h, .int w, .int p]) ++ List.replicate (4 - (lg_sl ([.ref h, .int w, .int p])).length) Slot.unset).toArray = ls at hl ⊢
  have hl : lv_has ls 4 [(0, .ref h), (1, .int w), (2, .int p)] := hl
  refine lv_aload_n hx hb dL_sing_0 rfl (lv_at hl 0 rfl) ?_
  refine lv_iload_n hx hb dL_sing_1 rfl (lv_at hl 1 rfl) ?_
  refine lv_iload_n hx hb dL_sing_2 rfl (lv_at hl 2 rfl) ?_
  refine vx_calli (vx_runV (As := [.int w, .int p]) (rest := []) ⟨hx, hb, hml, hown, hts⟩ (x_X0_sing_1 l hst N0 s.heap h w p hw) (cwV 2 hts gL_sing_X0_sing rfl rfl rfl (by decide +kernel) ⟨Nat.le_of_ble_eq_true rfl, Nat.le_of_ble_eq_true rfl⟩) ⟨zPx.blind, va_recv hK hP (ci := 0) (q0 := 0) rfl rfl, zPx.call hN hE hS⟩ rfl rfl hl.1 rfl (lv_room (Nat.le_of_ble_eq_true rfl)) dL_sing_3 ⟨Nat.le_refl _, Nat.le_refl _⟩) hS (fun _ _ h9 => h9) (fun _ h9 => h9) (fun _ _ h9 => h9) (fun Ex ce q9 u t H locs ht hvm hp9 hB hz1 hk1 hS hce hcv hcl => ?_) (fun r u t H locs ht hvm hp9 hB hz1 hk1 hS => hp9.elim)
  obtain ⟨rfl, hB2, hB3⟩ := hB
  have hP : va_P D vwCl (wX h d cA z c ++ E) H := hP.kept (fun k q hq => by rw [← ht]; exact hB3 q.1 ((hP k q hq).lt))
  refine vx_catch (name := xO) hown [] (⟨0, 6, 7, 14⟩ : ExceptionTableEntry) [(⟨0, 6, 11, 17⟩ : ExceptionTableEntry)] (htab.trans rfl) (fun z9 h9 => nomatch h9) (by decide) (by decide) (hts (.classLink RL 14 xO) (by decide +kernel)) (va_Nw.use rfl hE.2.2.2.2.2.2.2.2.2.2.1) hce hcv hcl ?_
  refine lv_astore_n (lv' := [(3, .ref q9), (0, .ref h), (1, .int w), (2, .int p)]) hx hb dL_sing_7 rfl hl (by decide) rfl (fun ls hl => ?_)
  refine lv_ldc (v := (-99999)) hx hb hown (hts (.constant RL 16 (-99999)) (by decide +kernel)) dL_sing_8 ?_
  exact W.iret (v := (-99999)) hx hb hr (fun t ht hW => ⟨⟨_, (), rfl, rfl, ⟨by rw [ht]; exact hP, hD⟩⟩, hS.F ht⟩) hS.2.2 dL_sing_10

set_option maxHeartbeats 4000000 in
set_option maxRecDepth 100000 in
theorem c_L_sing_2 (l : Launch) (hst : l.stackTraces = false) (D : va_G) (N0 : Nat) (cA cL : ClassId) (E : va_W) (h : Nat) (d : Nat → Nat) (z : S7) (c : C5) (w p : Int32) (hw : zw w) (hp : ¬ zp p) : Met l yL_sing wsL_sing ({ frames := 9, cells := 1, slots := 6, locals := 146 }) (va_Pc [.ref h, .int w, .int p] (zPre D N0 cA cL (wX h d cA z c ++ E))) (va_Qi (fun (rv : Int32) (_ : Unit) => rv = (-99999)) (fun _ t => zPost D N0 (wX h d cA z c ++ E) t) (zA N0)) 1 6 (zA N0) := by
  refine va_MetW (cc := cL_sing) (maxL := 4) (ret := (some .int)) (by decide) rfl ?_
  intro pr e s m ag below meth cd s₁ B hml hv
  obtain ⟨rfl, hN, hP, hD, hK, hE⟩ := hv
  have hx := B.exec
  have hb := B.bytes
  have hr := B.returns
  have hts := atoms_spec (ws := wsL_sing) B.pre
  have hown : s.vm.findClass RL = some m.cls := findClass_of_methodNamed B.named
  have hlocks := B.notSynchronized
  have htab := vx_table (x := yL_sing) B (hts (.codeWith yL_sing cL_sing 4 (some .int) [(0, 6, 7, 14), (0, 6, 11, 17)]) List.mem_cons_self)
  have hS : va_S (zA N0) s.heap s.heap [] := va_S.rf
  have hl := lv_entry ([.ref h, .int w, .int p]) (n := 4) (Nat.le_of_ble_eq_true rfl)
  rw [lg_entry_eq]
  generalize (lg_sl ([.ref h, .int w, .int p]) ++ List.replicate (4 - (lg_sl ([.ref h, .int w, .int p])).length) Slot.unset).toArray = ls at hl ⊢
  have hl : lv_has ls 4 [(0, .ref h), (1, .int w), (2, .int p)] := hl
  refine lv_aload_n hx hb dL_sing_0 rfl (lv_at hl 0 rfl) ?_
  refine lv_iload_n hx hb dL_sing_1 rfl (lv_at hl 1 rfl) ?_
  refine lv_iload_n hx hb dL_sing_2 rfl (lv_at hl 2 rfl) ?_
  refine vx_calli (vx_runV (As := [.int w, .int p]) (rest := []) ⟨hx, hb, hml, hown, hts⟩ (x_X0_sing_2 l hst N0 s.heap h w p hw hp) (cwV 2 hts gL_sing_X0_sing rfl rfl rfl (by decide +kernel) ⟨Nat.le_of_ble_eq_true rfl, Nat.le_of_ble_eq_true rfl⟩) ⟨zPx.blind, va_recv hK hP (ci := 0) (q0 := 0) rfl rfl, zPx.call hN hE hS⟩ rfl rfl hl.1 rfl (lv_room (Nat.le_of_ble_eq_true rfl)) dL_sing_3 ⟨Nat.le_refl _, Nat.le_refl _⟩) hS (fun _ _ h9 => h9) (fun _ h9 => h9) (fun _ _ h9 => h9) (fun Ex ce q9 u t H locs ht hvm hp9 hB hz1 hk1 hS hce hcv hcl => ?_) (fun r u t H locs ht hvm hp9 hB hz1 hk1 hS => hp9.elim)
  obtain ⟨rfl, hB2, hB3⟩ := hB
  have hP : va_P D vwCl (wX h d cA z c ++ E) H := hP.kept (fun k q hq => by rw [← ht]; exact hB3 q.1 ((hP k q hq).lt))
  refine vx_catch (name := xI) hown [(⟨0, 6, 7, 14⟩ : ExceptionTableEntry)] (⟨0, 6, 11, 17⟩ : ExceptionTableEntry) [] (htab.trans rfl) (fun z9 h9 => by rw [List.mem_singleton.mp h9]; exact Or.inr ⟨by decide, xO, hts (.classLink RL 14 xO) (by decide +kernel), hE.2.2.2.2.2.2.2.1⟩) (by decide) (by decide) (hts (.classLink RL 17 xI) (by decide +kernel)) (va_Nw.use rfl hE.2.2.2.2.2.2.2.2.2.1) hce hcv hcl ?_
  refine lv_astore_n (lv' := [(3, .ref q9), (0, .ref h), (1, .int w), (2, .int p)]) hx hb dL_sing_11 rfl hl (by decide) rfl (fun ls hl => ?_)
  refine lv_ldc (v := (-99999)) hx hb hown (hts (.constant RL 16 (-99999)) (by decide +kernel)) dL_sing_12 ?_
  exact W.iret (v := (-99999)) hx hb hr (fun t ht hW => ⟨⟨_, (), rfl, rfl, ⟨by rw [ht]; exact hP, hD⟩⟩, hS.F ht⟩) hS.2.2 dL_sing_14

set_option maxHeartbeats 4000000 in
set_option maxRecDepth 100000 in
theorem c_L_slide_v (l : Launch) (D : va_G) (N0 : Nat) (cA cL : ClassId) (E : va_W) (h : Nat) (d : Nat → Nat) (z : S7) (c : C5) (w a b : Int32) (f : Nat) (hc : okC c) (hw : zw w) (hpa : zp a) (hpb : zp b) (hf : 2 ≤ f) (hf2 : f ≤ 50) : Met l yL_slide wsL_slide ({ frames := 8, cells := 0, slots := 0, locals := 187 }) (va_Pc [.ref h, .int w, .int a, .int b, .int (nI f)] (zPre D N0 cA cL (wX h d cA z c ++ E))) (va_Qi (fun (rv : Int32) (_ : Unit) => rv = (zSl c w.toNatClampNeg a b f z f).2.2.2.1 w.toNatClampNeg - z.2.2.2.1 w.toNatClampNeg) (fun _ t => zPost D N0 (wX h d cA (zSl c w.toNatClampNeg a b f z f) c ++ E) t) (zA N0)) 0 0 (zA N0) := by
  refine va_MetW (cc := cL_slide) (maxL := 6) (ret := (some .int)) (by decide) rfl ?_
  intro pr e s m ag below meth cd s₁ B hml hv
  obtain ⟨rfl, hN, hP, hD, hK, hE⟩ := hv
  have hx := B.exec
  have hb := B.bytes
  have hr := B.returns
  have hts := atoms_spec (ws := wsL_slide) B.pre
  have hown : s.vm.findClass RL = some m.cls := findClass_of_methodNamed B.named
  have hlocks := B.notSynchronized
  have hS : va_S (zA N0) s.heap s.heap [] := va_S.rf
  have hl := lv_entry ([.ref h, .int w, .int a, .int b, .int (nI f)]) (n := 6) (Nat.le_of_ble_eq_true rfl)
  rw [lg_entry_eq]
  generalize (lg_sl ([.ref h, .int w, .int a, .int b, .int (nI f)]) ++ List.replicate (6 - (lg_sl ([.ref h, .int w, .int a, .int b, .int (nI f)])).length) Slot.unset).toArray = ls at hl ⊢
  have hl : lv_has ls 6 [(0, .ref h), (1, .int w), (2, .int a), (3, .int b), (4, .int (nI f))] := hl
  refine lv_aload_n hx hb dL_slide_0 rfl (lv_at hl 0 rfl) ?_
  refine lv_iload_n hx hb dL_slide_1 rfl (lv_at hl 1 rfl) ?_
  refine lv_iload_n hx hb dL_slide_2 rfl (lv_at hl 2 rfl) ?_
  refine lv_iload_n hx hb dL_slide_3 rfl (lv_at hl 3 rfl) ?_
  refine lv_iload hx hb dL_slide_4 (lv_at hl 4 rfl) ?_
  refine va_calli (va_runV (As := [.int w, .int a, .int b, .int (nI f)]) (rest := []) ⟨hx, hb, hml, hown, hts⟩ (c_X0_slide_v l D N0 cA cL E h d z c w a b f hc hw hpa hpb hf hf2) (cwV 4 hts gL_slide_X0_slide rfl rfl rfl (by decide +kernel) ⟨Nat.le_of_ble_eq_true rfl, Nat.le_of_ble_eq_true rfl⟩) ⟨zPre.blind, va_recv hK hP (ci := 0) (q0 := 0) rfl rfl, zPre.call hN hP hD hK hE hS⟩ rfl rfl hl.1 rfl (lv_room (Nat.le_of_ble_eq_true rfl)) dL_slide_6 ⟨Nat.zero_le _, Nat.zero_le _⟩) hS (fun _ _ h9 => h9) (fun _ h9 => h9) (fun r_6 _ t H locs ht hvm h_6 hB hz1 hk1 hS => ?_)
  have h_6 : r_6 = ((zSl c w.toNatClampNeg a b f z f).2.2.2.1 w.toNatClampNeg - z.2.2.2.1 w.toNatClampNeg) := h_6
  subst h_6
  obtain ⟨hP, hD⟩ := hB
  rw [ht] at hP
  have hP : va_P D vwCl (wX h d cA (zSl c w.toNatClampNeg a b f z f) c ++ E) H := hP
  have hD : va_D (zA N0) (wX h d cA (zSl c w.toNatClampNeg a b f z f) c ++ E) := hD
  exact W.iret (v := ((zSl c w.toNatClampNeg a b f z f).2.2.2.1 w.toNatClampNeg - z.2.2.2.1 w.toNatClampNeg)) hx hb hr (fun t ht hW => ⟨⟨_, (), rfl, rfl, ⟨by rw [ht]; exact hP, hD⟩⟩, hS.F ht⟩) hS.2.2 dL_slide_9

set_option maxHeartbeats 4000000 in
set_option maxRecDepth 100000 in
theorem c_L_slide_1 (l : Launch) (hst : l.stackTraces = false) (D : va_G) (N0 : Nat) (cA cL : ClassId) (E : va_W) (h : Nat) (d : Nat → Nat) (z : S7) (c : C5) (w a b f : Int32) (hw : ¬ zw w) : Met l yL_slide wsL_slide ({ frames := 9, cells := 1, slots := 6, locals := 150 }) (va_Pc [.ref h, .int w, .int a, .int b, .int f] (zPre D N0 cA cL (wX h d cA z c ++ E))) (va_Qi (fun (rv : Int32) (_ : Unit) => rv = (-99999)) (fun _ t => zPost D N0 (wX h d cA z c ++ E) t) (zA N0)) 1 6 (zA N0) := by
  refine va_MetW (cc := cL_slide) (maxL := 6) (ret := (some .int)) (by decide) rfl ?_
  intro pr e s m ag below meth cd s₁ B hml hv
  obtain ⟨rfl, hN, hP, hD, hK, hE⟩ := hv
  have hx := B.exec
  have hb := B.bytes
  have hr := B.returns
  have hts := atoms_spec (ws := wsL_slide) B.pre
  have hown : s.vm.findClass RL = some m.cls := findClass_of_methodNamed B.named
  have hlocks := B.notSynchronized
  have htab := vx_table (x := yL_slide) B (hts (.codeWith yL_slide cL_slide 6 (some .int) [(0, 9, 10, 14), (0, 9, 15, 17)]) List.mem_cons_self)
  have hS : va_S (zA N0) s.heap s.heap [] := va_S.rf
  have hl := lv_entry ([.ref h, .int w, .int a, .int b, .int f]) (n := 6) (Nat.le_of_ble_eq_true rfl)
  rw [lg_entry_eq]
  generalize (lg_sl ([.ref h, .int w, .int a, .int b, .int f]) ++ List.replicate (6 - (lg_sl ([.ref h, .int w, .int a, .int b, .int f])).length) Slot.unset).toArray = ls at hl ⊢
  have hl : lv_has ls 6 [(0, .ref h), (1, .int w), (2, .int a), (3, .int b), (4, .int f)] := hl
  refine lv_aload_n hx hb dL_slide_0 rfl (lv_at hl 0 rfl) ?_
  refine lv_iload_n hx hb dL_slide_1 rfl (lv_at hl 1 rfl) ?_
  refine lv_iload_n hx hb dL_slide_2 rfl (lv_at hl 2 rfl) ?_
  refine lv_iload_n hx hb dL_slide_3 rfl (lv_at hl 3 rfl) ?_
  refine lv_iload hx hb dL_slide_4 (lv_at hl 4 rfl) ?_
  refine vx_calli (vx_runV (As := [.int w, .int a, .int b, .int f]) (rest := []) ⟨hx, hb, hml, hown, hts⟩ (x_X0_slide_1 l hst N0 s.heap h w a b f hw) (cwV 4 hts gL_slide_X0_slide rfl rfl rfl (by decide +kernel) ⟨Nat.le_of_ble_eq_true rfl, Nat.le_of_ble_eq_true rfl⟩) ⟨zPx.blind, va_recv hK hP (ci := 0) (q0 := 0) rfl rfl, zPx.call hN hE hS⟩ rfl rfl hl.1 rfl (lv_room (Nat.le_of_ble_eq_true rfl)) dL_slide_6 ⟨Nat.le_refl _, Nat.le_refl _⟩) hS (fun _ _ h9 => h9) (fun _ h9 => h9) (fun _ _ h9 => h9) (fun Ex ce q9 u t H locs ht hvm hp9 hB hz1 hk1 hS hce hcv hcl => ?_) (fun r u t H locs ht hvm hp9 hB hz1 hk1 hS => hp9.elim)
  obtain ⟨rfl, hB2, hB3⟩ := hB
  have hP : va_P D vwCl (wX h d cA z c ++ E) H := hP.kept (fun k q hq => by rw [← ht]; exact hB3 q.1 ((hP k q hq).lt))
  refine vx_catch (name := xO) hown [] (⟨0, 9, 10, 14⟩ : ExceptionTableEntry) [(⟨0, 9, 15, 17⟩ : ExceptionTableEntry)] (htab.trans rfl) (fun z9 h9 => nomatch h9) (by decide) (by decide) (hts (.classLink RL 14 xO) (by decide +kernel)) (va_Nw.use rfl hE.2.2.2.2.2.2.2.2.2.2.1) hce hcv hcl ?_
  refine lv_astore (lv' := [(5, .ref q9), (0, .ref h), (1, .int w), (2, .int a), (3, .int b), (4, .int f)]) hx hb dL_slide_10 hl (by decide) rfl (fun ls hl => ?_)
  refine lv_ldc (v := (-99999)) hx hb hown (hts (.constant RL 16 (-99999)) (by decide +kernel)) dL_slide_12 ?_
  exact W.iret (v := (-99999)) hx hb hr (fun t ht hW => ⟨⟨_, (), rfl, rfl, ⟨by rw [ht]; exact hP, hD⟩⟩, hS.F ht⟩) hS.2.2 dL_slide_14

set_option maxHeartbeats 4000000 in
set_option maxRecDepth 100000 in
theorem c_L_slide_2 (l : Launch) (hst : l.stackTraces = false) (D : va_G) (N0 : Nat) (cA cL : ClassId) (E : va_W) (h : Nat) (d : Nat → Nat) (z : S7) (c : C5) (w a b f : Int32) (hw : zw w) (hn : ¬ (zp a ∧ zp b ∧ (2 ≤ f ∧ f ≤ 50))) : Met l yL_slide wsL_slide ({ frames := 9, cells := 1, slots := 6, locals := 150 }) (va_Pc [.ref h, .int w, .int a, .int b, .int f] (zPre D N0 cA cL (wX h d cA z c ++ E))) (va_Qi (fun (rv : Int32) (_ : Unit) => rv = (-99999)) (fun _ t => zPost D N0 (wX h d cA z c ++ E) t) (zA N0)) 1 6 (zA N0) := by
  refine va_MetW (cc := cL_slide) (maxL := 6) (ret := (some .int)) (by decide) rfl ?_
  intro pr e s m ag below meth cd s₁ B hml hv
  obtain ⟨rfl, hN, hP, hD, hK, hE⟩ := hv
  have hx := B.exec
  have hb := B.bytes
  have hr := B.returns
  have hts := atoms_spec (ws := wsL_slide) B.pre
  have hown : s.vm.findClass RL = some m.cls := findClass_of_methodNamed B.named
  have hlocks := B.notSynchronized
  have htab := vx_table (x := yL_slide) B (hts (.codeWith yL_slide cL_slide 6 (some .int) [(0, 9, 10, 14), (0, 9, 15, 17)]) List.mem_cons_self)
  have hS : va_S (zA N0) s.heap s.heap [] := va_S.rf
  have hl := lv_entry ([.ref h, .int w, .int a, .int b, .int f]) (n := 6) (Nat.le_of_ble_eq_true rfl)
  rw [lg_entry_eq]
  generalize (lg_sl ([.ref h, .int w, .int a, .int b, .int f]) ++ List.replicate (6 - (lg_sl ([.ref h, .int w, .int a, .int b, .int f])).length) Slot.unset).toArray = ls at hl ⊢
  have hl : lv_has ls 6 [(0, .ref h), (1, .int w), (2, .int a), (3, .int b), (4, .int f)] := hl
  refine lv_aload_n hx hb dL_slide_0 rfl (lv_at hl 0 rfl) ?_
  refine lv_iload_n hx hb dL_slide_1 rfl (lv_at hl 1 rfl) ?_
  refine lv_iload_n hx hb dL_slide_2 rfl (lv_at hl 2 rfl) ?_
  refine lv_iload_n hx hb dL_slide_3 rfl (lv_at hl 3 rfl) ?_
  refine lv_iload hx hb dL_slide_4 (lv_at hl 4 rfl) ?_
  refine vx_calli (vx_runV (As := [.int w, .int a, .int b, .int f]) (rest := []) ⟨hx, hb, hml, hown, hts⟩ (x_X0_slide_I l hst N0 s.heap h w a b f hw hn) (cwV 4 hts gL_slide_X0_slide rfl rfl rfl (by decide +kernel) ⟨Nat.le_of_ble_eq_true rfl, Nat.le_of_ble_eq_true rfl⟩) ⟨zPx.blind, va_recv hK hP (ci := 0) (q0 := 0) rfl rfl, zPx.call hN hE hS⟩ rfl rfl hl.1 rfl (lv_room (Nat.le_of_ble_eq_true rfl)) dL_slide_6 ⟨Nat.le_refl _, Nat.le_refl _⟩) hS (fun _ _ h9 => h9) (fun _ h9 => h9) (fun _ _ h9 => h9) (fun Ex ce q9 u t H locs ht hvm hp9 hB hz1 hk1 hS hce hcv hcl => ?_) (fun r u t H locs ht hvm hp9 hB hz1 hk1 hS => hp9.elim)
  obtain ⟨rfl, hB2, hB3⟩ := hB
  have hP : va_P D vwCl (wX h d cA z c ++ E) H := hP.kept (fun k q hq => by rw [← ht]; exact hB3 q.1 ((hP k q hq).lt))
  refine vx_catch (name := xI) hown [(⟨0, 9, 10, 14⟩ : ExceptionTableEntry)] (⟨0, 9, 15, 17⟩ : ExceptionTableEntry) [] (htab.trans rfl) (fun z9 h9 => by rw [List.mem_singleton.mp h9]; exact Or.inr ⟨by decide, xO, hts (.classLink RL 14 xO) (by decide +kernel), hE.2.2.2.2.2.2.2.1⟩) (by decide) (by decide) (hts (.classLink RL 17 xI) (by decide +kernel)) (va_Nw.use rfl hE.2.2.2.2.2.2.2.2.2.1) hce hcv hcl ?_
  refine lv_astore (lv' := [(5, .ref q9), (0, .ref h), (1, .int w), (2, .int a), (3, .int b), (4, .int f)]) hx hb dL_slide_15 hl (by decide) rfl (fun ls hl => ?_)
  refine lv_ldc (v := (-99999)) hx hb hown (hts (.constant RL 16 (-99999)) (by decide +kernel)) dL_slide_17 ?_
  exact W.iret (v := (-99999)) hx hb hr (fun t ht hW => ⟨⟨_, (), rfl, rfl, ⟨by rw [ht]; exact hP, hD⟩⟩, hS.F ht⟩) hS.2.2 dL_slide_19

set_option maxHeartbeats 4000000 in
set_option maxRecDepth 100000 in
theorem c_L_rest_v (l : Launch) (D : va_G) (N0 : Nat) (cA cL : ClassId) (E : va_W) (h : Nat) (d : Nat → Nat) (z : S7) (c : C5) (w : Int32) (hw : zw w) : Met l yL_rest wsL_rest ({ frames := 2, cells := 0, slots := 0, locals := 42 }) (va_Pc [.ref h, .int w] (zPre D N0 cA cL (wX h d cA z c ++ E))) (va_Qi (fun (rv : Int32) (_ : Unit) => rv = z.1 w.toNatClampNeg) (fun _ t => zPost D N0 (wX h d cA ((upd z.1 w.toNatClampNeg (-1)), (upd z.2.1 w.toNatClampNeg 0), z.2.2.1, z.2.2.2.1, z.2.2.2.2.1, z.2.2.2.2.2.1, z.2.2.2.2.2.2) c ++ E) t) (zA N0)) 0 0 (zA N0) := by
  refine va_MetW (cc := cL_rest) (maxL := 3) (ret := (some .int)) (by decide) rfl ?_
  intro pr e s m ag below meth cd s₁ B hml hv
  obtain ⟨rfl, hN, hP, hD, hK, hE⟩ := hv
  have hx := B.exec
  have hb := B.bytes
  have hr := B.returns
  have hts := atoms_spec (ws := wsL_rest) B.pre
  have hown : s.vm.findClass RL = some m.cls := findClass_of_methodNamed B.named
  have hlocks := B.notSynchronized
  have hS : va_S (zA N0) s.heap s.heap [] := va_S.rf
  have hl := lv_entry ([.ref h, .int w]) (n := 3) (Nat.le_of_ble_eq_true rfl)
  rw [lg_entry_eq]
  generalize (lg_sl ([.ref h, .int w]) ++ List.replicate (3 - (lg_sl ([.ref h, .int w])).length) Slot.unset).toArray = ls at hl ⊢
  have hl : lv_has ls 3 [(0, .ref h), (1, .int w)] := hl
  refine lv_aload_n hx hb dL_rest_0 rfl (lv_at hl 0 rfl) ?_
  refine lv_iload_n hx hb dL_rest_1 rfl (lv_at hl 1 rfl) ?_
  refine va_calli (va_runV (As := [.int w]) (rest := []) ⟨hx, hb, hml, hown, hts⟩ (c_X0_rest_v l D N0 cA cL E h d z c w hw) (cwV 1 hts gL_rest_X0_rest rfl rfl rfl (by decide +kernel) ⟨Nat.le_of_ble_eq_true rfl, Nat.le_of_ble_eq_true rfl⟩) ⟨zPre.blind, va_recv hK hP (ci := 0) (q0 := 0) rfl rfl, zPre.call hN hP hD hK hE hS⟩ rfl rfl hl.1 rfl (lv_room (Nat.le_of_ble_eq_true rfl)) dL_rest_2 ⟨Nat.zero_le _, Nat.zero_le _⟩) hS (fun _ _ h9 => h9) (fun _ h9 => h9) (fun r_2 _ t H locs ht hvm h_2 hB hz1 hk1 hS => ?_)
  have h_2 : r_2 = (z.1 w.toNatClampNeg) := h_2
  subst h_2
  obtain ⟨hP, hD⟩ := hB
  rw [ht] at hP
  have hP : va_P D vwCl (wX h d cA ((upd z.1 w.toNatClampNeg (-1)), (upd z.2.1 w.toNatClampNeg 0), z.2.2.1, z.2.2.2.1, z.2.2.2.2.1, z.2.2.2.2.2.1, z.2.2.2.2.2.2) c ++ E) H := hP
  have hD : va_D (zA N0) (wX h d cA ((upd z.1 w.toNatClampNeg (-1)), (upd z.2.1 w.toNatClampNeg 0), z.2.2.1, z.2.2.2.1, z.2.2.2.2.1, z.2.2.2.2.2.1, z.2.2.2.2.2.2) c ++ E) := hD
  exact W.iret (v := (z.1 w.toNatClampNeg)) hx hb hr (fun t ht hW => ⟨⟨_, (), rfl, rfl, ⟨by rw [ht]; exact hP, hD⟩⟩, hS.F ht⟩) hS.2.2 dL_rest_5

set_option maxHeartbeats 4000000 in
set_option maxRecDepth 100000 in
theorem c_L_rest_1 (l : Launch) (hst : l.stackTraces = false) (D : va_G) (N0 : Nat) (cA cL : ClassId) (E : va_W) (h : Nat) (d : Nat → Nat) (z : S7) (c : C5) (w : Int32) (hw : ¬ zw w) : Met l yL_rest wsL_rest ({ frames := 9, cells := 1, slots := 6, locals := 146 }) (va_Pc [.ref h, .int w] (zPre D N0 cA cL (wX h d cA z c ++ E))) (va_Qi (fun (rv : Int32) (_ : Unit) => rv = (-99999)) (fun _ t => zPost D N0 (wX h d cA z c ++ E) t) (zA N0)) 1 6 (zA N0) := by
  refine va_MetW (cc := cL_rest) (maxL := 3) (ret := (some .int)) (by decide) rfl ?_
  intro pr e s m ag below meth cd s₁ B hml hv
  obtain ⟨rfl, hN, hP, hD, hK, hE⟩ := hv
  have hx := B.exec
  have hb := B.bytes
  have hr := B.returns
  have hts := atoms_spec (ws := wsL_rest) B.pre
  have hown : s.vm.findClass RL = some m.cls := findClass_of_methodNamed B.named
  have hlocks := B.notSynchronized
  have htab := vx_table (x := yL_rest) B (hts (.codeWith yL_rest cL_rest 3 (some .int) [(0, 5, 6, 14)]) List.mem_cons_self)
  have hS : va_S (zA N0) s.heap s.heap [] := va_S.rf
  have hl := lv_entry ([.ref h, .int w]) (n := 3) (Nat.le_of_ble_eq_true rfl)
  rw [lg_entry_eq]
  generalize (lg_sl ([.ref h, .int w]) ++ List.replicate (3 - (lg_sl ([.ref h, .int w])).length) Slot.unset).toArray = ls at hl ⊢
  have hl : lv_has ls 3 [(0, .ref h), (1, .int w)] := hl
  refine lv_aload_n hx hb dL_rest_0 rfl (lv_at hl 0 rfl) ?_
  refine lv_iload_n hx hb dL_rest_1 rfl (lv_at hl 1 rfl) ?_
  refine vx_calli (vx_runV (As := [.int w]) (rest := []) ⟨hx, hb, hml, hown, hts⟩ (x_X0_rest_1 l hst N0 s.heap h w hw) (cwV 1 hts gL_rest_X0_rest rfl rfl rfl (by decide +kernel) ⟨Nat.le_of_ble_eq_true rfl, Nat.le_of_ble_eq_true rfl⟩) ⟨zPx.blind, va_recv hK hP (ci := 0) (q0 := 0) rfl rfl, zPx.call hN hE hS⟩ rfl rfl hl.1 rfl (lv_room (Nat.le_of_ble_eq_true rfl)) dL_rest_2 ⟨Nat.le_refl _, Nat.le_refl _⟩) hS (fun _ _ h9 => h9) (fun _ h9 => h9) (fun _ _ h9 => h9) (fun Ex ce q9 u t H locs ht hvm hp9 hB hz1 hk1 hS hce hcv hcl => ?_) (fun r u t H locs ht hvm hp9 hB hz1 hk1 hS => hp9.elim)
  obtain ⟨rfl, hB2, hB3⟩ := hB
  have hP : va_P D vwCl (wX h d cA z c ++ E) H := hP.kept (fun k q hq => by rw [← ht]; exact hB3 q.1 ((hP k q hq).lt))
  refine vx_catch (name := xO) hown [] (⟨0, 5, 6, 14⟩ : ExceptionTableEntry) [] (htab.trans rfl) (fun z9 h9 => nomatch h9) (by decide) (by decide) (hts (.classLink RL 14 xO) (by decide +kernel)) (va_Nw.use rfl hE.2.2.2.2.2.2.2.2.2.2.1) hce hcv hcl ?_
  refine lv_astore_n (lv' := [(2, .ref q9), (0, .ref h), (1, .int w)]) hx hb dL_rest_6 rfl hl (by decide) rfl (fun ls hl => ?_)
  refine lv_ldc (v := (-99999)) hx hb hown (hts (.constant RL 16 (-99999)) (by decide +kernel)) dL_rest_7 ?_
  exact W.iret (v := (-99999)) hx hb hr (fun t ht hW => ⟨⟨_, (), rfl, rfl, ⟨by rw [ht]; exact hP, hD⟩⟩, hS.F ht⟩) hS.2.2 dL_rest_9
