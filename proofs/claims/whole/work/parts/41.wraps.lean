theorem x_X0_setScale_I (l : Launch) (hst : l.stackTraces = false) (N0 : Nat) (Hx : Heap) (h : Nat) (key : Int32) (md : Int32) (hn : ¬ ((0 ≤ key ∧ key ≤ 11) ∧ (0 ≤ md ∧ md ≤ 7))) : vx_Met l yX0_setScale wsX0_setScale ({ frames := 8, cells := 1, slots := 6, locals := 124 }) (va_Pc [.ref h, .int key, .int md] (fun U => U.heap = Hx ∧ zPe N0 U)) (va_Qi (fun (_ : Int32) (_ : Unit) => False) (fun _ _ => True) (zA N0)) (vx_X (fun (_ : Unit) => True) (fun E _ t => E = xI ∧ Hx.size ≤ t.heap.size ∧ ∀ q : Nat, q < Hx.size → t.heap[q]? = Hx[q]?) (zA N0)) 1 6 (zA N0) := by
  by_cases h1 : (0 ≤ key ∧ key ≤ 11)
  · skip
    exact x_X0_setScale_2 l hst N0 Hx h key md h1 (fun q => hn ⟨h1, q⟩)
  · exact x_X0_setScale_1 l hst N0 Hx h key md  h1

theorem x_X0_within_I (l : Launch) (hst : l.stackTraces = false) (N0 : Nat) (Hx : Heap) (h : Nat) (key : Int32) (md : Int32) (hn : ¬ ((0 ≤ key ∧ key ≤ 11) ∧ (0 ≤ md ∧ md ≤ 7))) : vx_Met l yX0_within wsX0_within ({ frames := 8, cells := 1, slots := 6, locals := 124 }) (va_Pc [.ref h, .int key, .int md] (fun U => U.heap = Hx ∧ zPe N0 U)) (va_Qi (fun (_ : Int32) (_ : Unit) => False) (fun _ _ => True) (zA N0)) (vx_X (fun (_ : Unit) => True) (fun E _ t => E = xI ∧ Hx.size ≤ t.heap.size ∧ ∀ q : Nat, q < Hx.size → t.heap[q]? = Hx[q]?) (zA N0)) 1 6 (zA N0) := by
  by_cases h1 : (0 ≤ key ∧ key ≤ 11)
  · skip
    exact x_X0_within_2 l hst N0 Hx h key md h1 (fun q => hn ⟨h1, q⟩)
  · exact x_X0_within_1 l hst N0 Hx h key md  h1

theorem x_X0_setNudging_I (l : Launch) (hst : l.stackTraces = false) (N0 : Nat) (Hx : Heap) (h : Nat) (sp : Int32) (le : Int32) (gl : Int32) (hn : ¬ ((0 ≤ sp ∧ sp ≤ 100) ∧ (0 ≤ le ∧ le ≤ 600) ∧ (0 ≤ gl ∧ gl ≤ 12000))) : vx_Met l yX0_setNudging wsX0_setNudging ({ frames := 8, cells := 1, slots := 6, locals := 124 }) (va_Pc [.ref h, .int sp, .int le, .int gl] (fun U => U.heap = Hx ∧ zPe N0 U)) (va_Qv (fun (_ : Unit) => False) (fun _ _ => True) (zA N0)) (vx_X (fun (_ : Unit) => True) (fun E _ t => E = xI ∧ Hx.size ≤ t.heap.size ∧ ∀ q : Nat, q < Hx.size → t.heap[q]? = Hx[q]?) (zA N0)) 1 6 (zA N0) := by
  by_cases h1 : 0 ≤ sp ∧ sp ≤ 100
  · skip
    by_cases h2 : 0 ≤ le ∧ le ≤ 600
    · skip
      exact x_X0_setNudging_3 l hst N0 Hx h sp le gl h1 h2 (fun q => hn ⟨h1, h2, q⟩)
    · exact x_X0_setNudging_2 l hst N0 Hx h sp le gl h1 h2
  · exact x_X0_setNudging_1 l hst N0 Hx h sp le gl  h1

theorem x_X0_slide_I (l : Launch) (hst : l.stackTraces = false) (N0 : Nat) (Hx : Heap) (h : Nat) (w : Int32) (a : Int32) (b : Int32) (f : Int32) (hw : zw w) (hn : ¬ (zp a ∧ zp b ∧ (2 ≤ f ∧ f ≤ 50))) : vx_Met l yX0_slide wsX0_slide ({ frames := 8, cells := 1, slots := 6, locals := 124 }) (va_Pc [.ref h, .int w, .int a, .int b, .int f] (fun U => U.heap = Hx ∧ zPe N0 U)) (va_Qi (fun (_ : Int32) (_ : Unit) => False) (fun _ _ => True) (zA N0)) (vx_X (fun (_ : Unit) => True) (fun E _ t => E = xI ∧ Hx.size ≤ t.heap.size ∧ ∀ q : Nat, q < Hx.size → t.heap[q]? = Hx[q]?) (zA N0)) 1 6 (zA N0) := by
  by_cases h2 : zp a
  · skip
    by_cases h3 : zp b
    · skip
      exact x_X0_slide_4 l hst N0 Hx h w a b f hw h2 h3 (fun q => hn ⟨h2, h3, q⟩)
    · exact x_X0_slide_3 l hst N0 Hx h w a b f hw h2 h3
  · exact x_X0_slide_2 l hst N0 Hx h w a b f hw h2

set_option maxHeartbeats 4000000 in
set_option maxRecDepth 100000 in
theorem c_L_setScale_v (l : Launch) (D : va_G) (N0 : Nat) (cA cL : ClassId) (E : va_W) (h : Nat) (d : Nat → Nat) (z : S7) (c : C5) (o : Nat) (g : Nat → Int64) (k2 m2 : Nat) (hc : okC c) (hk2 : k2 < 12) (hm2 : m2 < 8) : Met l yL_setScale wsL_setScale ({ frames := 5, cells := 0, slots := 0, locals := 113 }) (va_Pc [.ref h, .int (nI k2), .int (nI m2), .ref o] (zPre D N0 cA cL (wX h d cA z c ++ ((o, .inl (cL, 1, .inr (.inl g))) :: E)))) (va_Qi (fun (rv : Int32) (_ : Unit) => rv = 0) (fun _ t => zPost D N0 (wX h d cA ((zL (k2, m2, c.2.2.1, c.2.2.2.1, c.2.2.2.2) z.1).1, z.2.1, z.2.2.1, z.2.2.2.1, z.2.2.2.2.1, z.2.2.2.2.2.1, z.2.2.2.2.2.2) (k2, m2, c.2.2.1, c.2.2.2.1, c.2.2.2.2) ++ ((o, .inl (cL, 1, .inr (.inl (vp_updL g (0 : Int32).toNatClampNeg ((zL (k2, m2, c.2.2.1, c.2.2.2.1, c.2.2.2.2) z.1).2).toInt64)))) :: E)) t) (zA N0)) 0 0 (zA N0) := by
  refine va_MetW (cc := cL_setScale) (maxL := 5) (ret := (some .int)) (by decide) rfl ?_
  intro pr e s m ag below meth cd s₁ B hml hv
  obtain ⟨rfl, hN, hP, hD, hK, hE⟩ := hv
  have hx := B.exec
  have hb := B.bytes
  have hr := B.returns
  have hts := atoms_spec (ws := wsL_setScale) B.pre
  have hown : s.vm.findClass RL = some m.cls := findClass_of_methodNamed B.named
  have hlocks := B.notSynchronized
  have hS : va_S (zA N0) s.heap s.heap [] := va_S.rf
  have hl := lv_entry ([.ref h, .int (nI k2), .int (nI m2), .ref o]) (n := 5) (Nat.le_of_ble_eq_true rfl)
  rw [lg_entry_eq]
  generalize (lg_sl ([.ref h, .int (nI k2), .int (nI m2), .ref o]) ++ List.replicate (5 - (lg_sl ([.ref h, .int (nI k2), .int (nI m2), .ref o])).length) Slot.unset).toArray = ls at hl ⊢
  have hl : lv_has ls 5 [(0, .ref h), (1, .int (nI k2)), (2, .int (nI m2)), (3, .ref o)] := hl
  refine lv_aload_n hx hb dL_setScale_0 rfl (lv_at hl 3 rfl) ?_
  refine lv_iconst (v := 0) hx hb dL_setScale_1 (by decide) ?_
  refine lv_aload_n hx hb dL_setScale_2 rfl (lv_at hl 0 rfl) ?_
  refine lv_iload_n hx hb dL_setScale_3 rfl (lv_at hl 1 rfl) ?_
  refine lv_iload_n hx hb dL_setScale_4 rfl (lv_at hl 2 rfl) ?_
  refine va_calli (va_runV (As := [.int (nI k2), .int (nI m2)]) (rest := [.int 0, .ref o]) ⟨hx, hb, hml, hown, hts⟩ (c_X0_setScale_v l D N0 cA cL ((o, .inl (cL, 1, .inr (.inl g))) :: E) h d z c k2 m2 hc hk2 hm2) (cwV 2 hts gL_setScale_X0_setScale rfl rfl rfl (by decide +kernel) ⟨Nat.le_of_ble_eq_true rfl, Nat.le_of_ble_eq_true rfl⟩) ⟨zPre.blind, va_recv hK hP (ci := 0) (q0 := 0) rfl rfl, zPre.call hN hP hD hK hE hS⟩ rfl rfl hl.1 rfl (lv_room (Nat.le_of_ble_eq_true rfl)) dL_setScale_5 ⟨Nat.zero_le _, Nat.zero_le _⟩) hS (fun _ _ h9 => h9) (fun _ h9 => h9) (fun r_5 _ t H locs ht hvm h_5 hB hz1 hk1 hS => ?_)
  have h_5 : r_5 = ((zL (k2, m2, c.2.2.1, c.2.2.2.1, c.2.2.2.2) z.1).2) := h_5
  subst h_5
  obtain ⟨hP, hD⟩ := hB
  rw [ht] at hP
  have hP : va_P D vwCl (wX h d cA ((zL (k2, m2, c.2.2.1, c.2.2.2.1, c.2.2.2.2) z.1).1, z.2.1, z.2.2.1, z.2.2.2.1, z.2.2.2.2.1, z.2.2.2.2.2.1, z.2.2.2.2.2.2) (k2, m2, c.2.2.1, c.2.2.2.1, c.2.2.2.2) ++ ((o, .inl (cL, 1, .inr (.inl g))) :: E)) H := hP
  have hD : va_D (zA N0) (wX h d cA ((zL (k2, m2, c.2.2.1, c.2.2.2.1, c.2.2.2.2) z.1).1, z.2.1, z.2.2.1, z.2.2.2.1, z.2.2.2.2.1, z.2.2.2.2.2.1, z.2.2.2.2.2.2) (k2, m2, c.2.2.1, c.2.2.2.1, c.2.2.2.2) ++ ((o, .inl (cL, 1, .inr (.inl g))) :: E)) := hD
  refine lv_i2l hx hb dL_setScale_8 rfl ?_
  refine va_last hx hb hK hP hD hS 8 1 rfl rfl (vp_in_nI (n := 0) (by decide) (by decide)) dL_setScale_9 (fun H locs hP hD hS => ?_)
  have hP : va_P D vwCl (wX h d cA ((zL (k2, m2, c.2.2.1, c.2.2.2.1, c.2.2.2.2) z.1).1, z.2.1, z.2.2.1, z.2.2.2.1, z.2.2.2.2.1, z.2.2.2.2.2.1, z.2.2.2.2.2.2) (k2, m2, c.2.2.1, c.2.2.2.1, c.2.2.2.2) ++ ((o, .inl (cL, 1, .inr (.inl (vp_updL g (0 : Int32).toNatClampNeg ((zL (k2, m2, c.2.2.1, c.2.2.2.1, c.2.2.2.2) z.1).2).toInt64)))) :: E)) H := hP
  have hD : va_D (zA N0) (wX h d cA ((zL (k2, m2, c.2.2.1, c.2.2.2.1, c.2.2.2.2) z.1).1, z.2.1, z.2.2.1, z.2.2.2.1, z.2.2.2.2.1, z.2.2.2.2.2.1, z.2.2.2.2.2.2) (k2, m2, c.2.2.1, c.2.2.2.1, c.2.2.2.2) ++ ((o, .inl (cL, 1, .inr (.inl (vp_updL g (0 : Int32).toNatClampNeg ((zL (k2, m2, c.2.2.1, c.2.2.2.1, c.2.2.2.2) z.1).2).toInt64)))) :: E)) := hD
  refine lv_goto (tgt := 17) hx hb dL_setScale_10 (by decide) ?_
  refine lv_iconst (v := 0) hx hb dL_setScale_17 (by decide) ?_
  exact W.iret (v := 0) hx hb hr (fun t ht hW => ⟨⟨_, (), rfl, rfl, ⟨by rw [ht]; exact hP, hD⟩⟩, hS.F ht⟩) hS.2.2 dL_setScale_18

set_option maxHeartbeats 4000000 in
set_option maxRecDepth 100000 in
theorem c_L_setScale_1 (l : Launch) (hst : l.stackTraces = false) (D : va_G) (N0 : Nat) (cA cL : ClassId) (E : va_W) (h : Nat) (d : Nat → Nat) (z : S7) (c : C5) (o : Nat) (g : Nat → Int64) (key md : Int32) (hn : ¬ ((0 ≤ key ∧ key ≤ 11) ∧ (0 ≤ md ∧ md ≤ 7))) : Met l yL_setScale wsL_setScale ({ frames := 9, cells := 1, slots := 6, locals := 148 }) (va_Pc [.ref h, .int key, .int md, .ref o] (zPre D N0 cA cL (wX h d cA z c ++ ((o, .inl (cL, 1, .inr (.inl g))) :: E)))) (va_Qi (fun (rv : Int32) (_ : Unit) => rv = 1) (fun _ t => zPost D N0 (wX h d cA z c ++ ((o, .inl (cL, 1, .inr (.inl g))) :: E)) t) (zA N0)) 1 6 (zA N0) := by
  refine va_MetW (cc := cL_setScale) (maxL := 5) (ret := (some .int)) (by decide) rfl ?_
  intro pr e s m ag below meth cd s₁ B hml hv
  obtain ⟨rfl, hN, hP, hD, hK, hE⟩ := hv
  have hx := B.exec
  have hb := B.bytes
  have hr := B.returns
  have hts := atoms_spec (ws := wsL_setScale) B.pre
  have hown : s.vm.findClass RL = some m.cls := findClass_of_methodNamed B.named
  have hlocks := B.notSynchronized
  have htab := vx_table (x := yL_setScale) B (hts (.codeWith yL_setScale cL_setScale 5 (some .int) [(0, 10, 13, 13)]) List.mem_cons_self)
  have hS : va_S (zA N0) s.heap s.heap [] := va_S.rf
  have hl := lv_entry ([.ref h, .int key, .int md, .ref o]) (n := 5) (Nat.le_of_ble_eq_true rfl)
  rw [lg_entry_eq]
  generalize (lg_sl ([.ref h, .int key, .int md, .ref o]) ++ List.replicate (5 - (lg_sl ([.ref h, .int key, .int md, .ref o])).length) Slot.unset).toArray = ls at hl ⊢
  have hl : lv_has ls 5 [(0, .ref h), (1, .int key), (2, .int md), (3, .ref o)] := hl
  refine lv_aload_n hx hb dL_setScale_0 rfl (lv_at hl 3 rfl) ?_
  refine lv_iconst (v := 0) hx hb dL_setScale_1 (by decide) ?_
  refine lv_aload_n hx hb dL_setScale_2 rfl (lv_at hl 0 rfl) ?_
  refine lv_iload_n hx hb dL_setScale_3 rfl (lv_at hl 1 rfl) ?_
  refine lv_iload_n hx hb dL_setScale_4 rfl (lv_at hl 2 rfl) ?_
  refine vx_calli (vx_runV (As := [.int key, .int md]) (rest := [.int 0, .ref o]) ⟨hx, hb, hml, hown, hts⟩ (x_X0_setScale_I l hst N0 s.heap h key md hn) (cwV 2 hts gL_setScale_X0_setScale rfl rfl rfl (by decide +kernel) ⟨Nat.le_of_ble_eq_true rfl, Nat.le_of_ble_eq_true rfl⟩) ⟨zPx.blind, va_recv hK hP (ci := 0) (q0 := 0) rfl rfl, zPx.call hN hE hS⟩ rfl rfl hl.1 rfl (lv_room (Nat.le_of_ble_eq_true rfl)) dL_setScale_5 ⟨Nat.le_refl _, Nat.le_refl _⟩) hS (fun _ _ h9 => h9) (fun _ h9 => h9) (fun _ _ h9 => h9) (fun Ex ce q9 u t H locs ht hvm hp9 hB hz1 hk1 hS hce hcv hcl => ?_) (fun r u t H locs ht hvm hp9 hB hz1 hk1 hS => hp9.elim)
  obtain ⟨rfl, hB2, hB3⟩ := hB
  have hP : va_P D vwCl (wX h d cA z c ++ ((o, .inl (cL, 1, .inr (.inl g))) :: E)) H := hP.kept (fun k q hq => by rw [← ht]; exact hB3 q.1 ((hP k q hq).lt))
  refine vx_catch (name := xI) hown [] (⟨0, 10, 13, 13⟩ : ExceptionTableEntry) [] (htab.trans rfl) (fun z9 h9 => nomatch h9) (by decide) (by decide) (hts (.classLink RL 13 xI) (by decide +kernel)) (va_Nw.use rfl hE.2.2.2.2.2.2.2.2.2.1) hce hcv hcl ?_
  refine lv_astore (lv' := [(4, .ref q9), (0, .ref h), (1, .int key), (2, .int md), (3, .ref o)]) hx hb dL_setScale_13 hl (by decide) rfl (fun ls hl => ?_)
  refine lv_iconst (v := 1) hx hb dL_setScale_15 (by decide) ?_
  exact W.iret (v := 1) hx hb hr (fun t ht hW => ⟨⟨_, (), rfl, rfl, ⟨by rw [ht]; exact hP, hD⟩⟩, hS.F ht⟩) hS.2.2 dL_setScale_16

set_option maxHeartbeats 4000000 in
set_option maxRecDepth 100000 in
theorem c_L_setNudging_v (l : Launch) (D : va_G) (N0 : Nat) (cA cL : ClassId) (E : va_W) (h : Nat) (d : Nat → Nat) (z : S7) (c : C5) (sp le gl : Int32) (h1 : 0 ≤ sp ∧ sp ≤ 100) (h2 : 0 ≤ le ∧ le ≤ 600) (h3 : 0 ≤ gl ∧ gl ≤ 12000) : Met l yL_setNudging wsL_setNudging ({ frames := 2, cells := 0, slots := 0, locals := 45 }) (va_Pc [.ref h, .int sp, .int le, .int gl] (zPre D N0 cA cL (wX h d cA z c ++ E))) (va_Qi (fun (rv : Int32) (_ : Unit) => rv = 0) (fun _ t => zPost D N0 (wX h d cA z (c.1, c.2.1, sp, le, gl) ++ E) t) (zA N0)) 0 0 (zA N0) := by
  refine va_MetW (cc := cL_setNudging) (maxL := 5) (ret := (some .int)) (by decide) rfl ?_
  intro pr e s m ag below meth cd s₁ B hml hv
  obtain ⟨rfl, hN, hP, hD, hK, hE⟩ := hv
  have hx := B.exec
  have hb := B.bytes
  have hr := B.returns
  have hts := atoms_spec (ws := wsL_setNudging) B.pre
  have hown : s.vm.findClass RL = some m.cls := findClass_of_methodNamed B.named
  have hlocks := B.notSynchronized
  have hS : va_S (zA N0) s.heap s.heap [] := va_S.rf
  have hl := lv_entry ([.ref h, .int sp, .int le, .int gl]) (n := 5) (Nat.le_of_ble_eq_true rfl)
  rw [lg_entry_eq]
  generalize (lg_sl ([.ref h, .int sp, .int le, .int gl]) ++ List.replicate (5 - (lg_sl ([.ref h, .int sp, .int le, .int gl])).length) Slot.unset).toArray = ls at hl ⊢
  have hl : lv_has ls 5 [(0, .ref h), (1, .int sp), (2, .int le), (3, .int gl)] := hl
  refine lv_aload_n hx hb dL_setNudging_0 rfl (lv_at hl 0 rfl) ?_
  refine lv_iload_n hx hb dL_setNudging_1 rfl (lv_at hl 1 rfl) ?_
  refine lv_iload_n hx hb dL_setNudging_2 rfl (lv_at hl 2 rfl) ?_
  refine lv_iload_n hx hb dL_setNudging_3 rfl (lv_at hl 3 rfl) ?_
  refine va_callv (va_runV (As := [.int sp, .int le, .int gl]) (rest := []) ⟨hx, hb, hml, hown, hts⟩ (c_X0_setNudging_v l D N0 cA cL E h d z c sp le gl h1 h2 h3) (cwV 3 hts gL_setNudging_X0_setNudging rfl rfl rfl (by decide +kernel) ⟨Nat.le_of_ble_eq_true rfl, Nat.le_of_ble_eq_true rfl⟩) ⟨zPre.blind, va_recv hK hP (ci := 0) (q0 := 0) rfl rfl, zPre.call hN hP hD hK hE hS⟩ rfl rfl hl.1 rfl (lv_room (Nat.le_of_ble_eq_true rfl)) dL_setNudging_4 ⟨Nat.zero_le _, Nat.zero_le _⟩) hS (fun _ _ h9 => h9) (fun _ h9 => h9) (fun _ t H locs ht hvm h_4 hB hz1 hk1 hS => ?_)
  obtain ⟨hP, hD⟩ := hB
  rw [ht] at hP
  have hP : va_P D vwCl (wX h d cA z (c.1, c.2.1, sp, le, gl) ++ E) H := hP
  have hD : va_D (zA N0) (wX h d cA z (c.1, c.2.1, sp, le, gl) ++ E) := hD
  refine lv_goto (tgt := 14) hx hb dL_setNudging_7 (by decide) ?_
  refine lv_iconst (v := 0) hx hb dL_setNudging_14 (by decide) ?_
  exact W.iret (v := 0) hx hb hr (fun t ht hW => ⟨⟨_, (), rfl, rfl, ⟨by rw [ht]; exact hP, hD⟩⟩, hS.F ht⟩) hS.2.2 dL_setNudging_15

set_option maxHeartbeats 4000000 in
set_option maxRecDepth 100000 in
theorem c_L_setNudging_1 (l : Launch) (hst : l.stackTraces = false) (D : va_G) (N0 : Nat) (cA cL : ClassId) (E : va_W) (h : Nat) (d : Nat → Nat) (z : S7) (c : C5) (sp le gl : Int32) (hn : ¬ ((0 ≤ sp ∧ sp ≤ 100) ∧ (0 ≤ le ∧ le ≤ 600) ∧ (0 ≤ gl ∧ gl ≤ 12000))) : Met l yL_setNudging wsL_setNudging ({ frames := 9, cells := 1, slots := 6, locals := 147 }) (va_Pc [.ref h, .int sp, .int le, .int gl] (zPre D N0 cA cL (wX h d cA z c ++ E))) (va_Qi (fun (rv : Int32) (_ : Unit) => rv = 1) (fun _ t => zPost D N0 (wX h d cA z c ++ E) t) (zA N0)) 1 6 (zA N0) := by
  refine va_MetW (cc := cL_setNudging) (maxL := 5) (ret := (some .int)) (by decide) rfl ?_
  intro pr e s m ag below meth cd s₁ B hml hv
  obtain ⟨rfl, hN, hP, hD, hK, hE⟩ := hv
  have hx := B.exec
  have hb := B.bytes
  have hr := B.returns
  have hts := atoms_spec (ws := wsL_setNudging) B.pre
  have hown : s.vm.findClass RL = some m.cls := findClass_of_methodNamed B.named
  have hlocks := B.notSynchronized
  have htab := vx_table (x := yL_setNudging) B (hts (.codeWith yL_setNudging cL_setNudging 5 (some .int) [(0, 7, 10, 13)]) List.mem_cons_self)
  have hS : va_S (zA N0) s.heap s.heap [] := va_S.rf
  have hl := lv_entry ([.ref h, .int sp, .int le, .int gl]) (n := 5) (Nat.le_of_ble_eq_true rfl)
  rw [lg_entry_eq]
  generalize (lg_sl ([.ref h, .int sp, .int le, .int gl]) ++ List.replicate (5 - (lg_sl ([.ref h, .int sp, .int le, .int gl])).length) Slot.unset).toArray = ls at hl ⊢
  have hl : lv_has ls 5 [(0, .ref h), (1, .int sp), (2, .int le), (3, .int gl)] := hl
  refine lv_aload_n hx hb dL_setNudging_0 rfl (lv_at hl 0 rfl) ?_
  refine lv_iload_n hx hb dL_setNudging_1 rfl (lv_at hl 1 rfl) ?_
  refine lv_iload_n hx hb dL_setNudging_2 rfl (lv_at hl 2 rfl) ?_
  refine lv_iload_n hx hb dL_setNudging_3 rfl (lv_at hl 3 rfl) ?_
  refine vx_callv (vx_runV (As := [.int sp, .int le, .int gl]) (rest := []) ⟨hx, hb, hml, hown, hts⟩ (x_X0_setNudging_I l hst N0 s.heap h sp le gl hn) (cwV 3 hts gL_setNudging_X0_setNudging rfl rfl rfl (by decide +kernel) ⟨Nat.le_of_ble_eq_true rfl, Nat.le_of_ble_eq_true rfl⟩) ⟨zPx.blind, va_recv hK hP (ci := 0) (q0 := 0) rfl rfl, zPx.call hN hE hS⟩ rfl rfl hl.1 rfl (lv_room (Nat.le_of_ble_eq_true rfl)) dL_setNudging_4 ⟨Nat.le_refl _, Nat.le_refl _⟩) hS (fun _ _ h9 => h9) (fun _ h9 => h9) (fun _ _ h9 => h9) (fun Ex ce q9 u t H locs ht hvm hp9 hB hz1 hk1 hS hce hcv hcl => ?_) (fun u t H locs ht hvm hp9 hB hz1 hk1 hS => hp9.elim)
  obtain ⟨rfl, hB2, hB3⟩ := hB
  have hP : va_P D vwCl (wX h d cA z c ++ E) H := hP.kept (fun k q hq => by rw [← ht]; exact hB3 q.1 ((hP k q hq).lt))
  refine vx_catch (name := xI) hown [] (⟨0, 7, 10, 13⟩ : ExceptionTableEntry) [] (htab.trans rfl) (fun z9 h9 => nomatch h9) (by decide) (by decide) (hts (.classLink RL 13 xI) (by decide +kernel)) (va_Nw.use rfl hE.2.2.2.2.2.2.2.2.2.1) hce hcv hcl ?_
  refine lv_astore (lv' := [(4, .ref q9), (0, .ref h), (1, .int sp), (2, .int le), (3, .int gl)]) hx hb dL_setNudging_10 hl (by decide) rfl (fun ls hl => ?_)
  refine lv_iconst (v := 1) hx hb dL_setNudging_12 (by decide) ?_
  exact W.iret (v := 1) hx hb hr (fun t ht hW => ⟨⟨_, (), rfl, rfl, ⟨by rw [ht]; exact hP, hD⟩⟩, hS.F ht⟩) hS.2.2 dL_setNudging_13

set_option maxHeartbeats 4000000 in
set_option maxRecDepth 100000 in
theorem c_L_sing_v (l : Launch) (D : va_G) (N0 : Nat) (cA cL : ClassId) (E : va_W) (h : Nat) (d : Nat → Nat) (z : S7) (c : C5) (o : Nat) (g : Nat → Int64) (w p : Int32) (hc : okC c) (hw : zw w) (hp : zp p) : Met l yL_sing wsL_sing ({ frames := 8, cells := 0, slots := 0, locals := 183 }) (va_Pc [.ref h, .int w, .int p, .ref o] (zPre D N0 cA cL (wX h d cA z c ++ ((o, .inl (cL, 1, .inr (.inl g))) :: E)))) (va_Qi (fun (rv : Int32) (_ : Unit) => rv = 0) (fun _ t => zPost D N0 (wX h d cA (zSg c w.toNatClampNeg p z) c ++ ((o, .inl (cL, 1, .inr (.inl (vp_updL g (0 : Int32).toNatClampNeg (zOut c w.toNatClampNeg p z).toInt64)))) :: E)) t) (zA N0)) 0 0 (zA N0) := by
  refine va_MetW (cc := cL_sing) (maxL := 5) (ret := (some .int)) (by decide) rfl ?_
  intro pr e s m ag below meth cd s₁ B hml hv
  obtain ⟨rfl, hN, hP, hD, hK, hE⟩ := hv
  have hx := B.exec
  have hb := B.bytes
  have hr := B.returns
  have hts := atoms_spec (ws := wsL_sing) B.pre
  have hown : s.vm.findClass RL = some m.cls := findClass_of_methodNamed B.named
  have hlocks := B.notSynchronized
  have hS : va_S (zA N0) s.heap s.heap [] := va_S.rf
  have hl := lv_entry ([.ref h, .int w, .int p, .ref o]) (n := 5) (Nat.le_of_ble_eq_true rfl)
  rw [lg_entry_eq]
  generalize (lg_sl ([.ref h, .int w, .int p, .ref o]) ++ List.replicate (5 - (lg_sl ([.ref h, .int w, .int p, .ref o])).length) Slot.unset).toArray = ls at hl ⊢
  have hl : lv_has ls 5 [(0, .ref h), (1, .int w), (2, .int p), (3, .ref o)] := hl
  refine lv_aload_n hx hb dL_sing_0 rfl (lv_at hl 3 rfl) ?_
  refine lv_iconst (v := 0) hx hb dL_sing_1 (by decide) ?_
  refine lv_aload_n hx hb dL_sing_2 rfl (lv_at hl 0 rfl) ?_
  refine lv_iload_n hx hb dL_sing_3 rfl (lv_at hl 1 rfl) ?_
  refine lv_iload_n hx hb dL_sing_4 rfl (lv_at hl 2 rfl) ?_
  refine va_calli (va_runV (As := [.int w, .int p]) (rest := [.int 0, .ref o]) ⟨hx, hb, hml, hown, hts⟩ (c_X0_sing_v l D N0 cA cL ((o, .inl (cL, 1, .inr (.inl g))) :: E) h d z c w p hc hw hp) (cwV 2 hts gL_sing_X0_sing rfl rfl rfl (by decide +kernel) ⟨Nat.le_of_ble_eq_true rfl, Nat.le_of_ble_eq_true rfl⟩) ⟨zPre.blind, va_recv hK hP (ci := 0) (q0 := 0) rfl rfl, zPre.call hN hP hD hK hE hS⟩ rfl rfl hl.1 rfl (lv_room (Nat.le_of_ble_eq_true rfl)) dL_sing_5 ⟨Nat.zero_le _, Nat.zero_le _⟩) hS (fun _ _ h9 => h9) (fun _ h9 => h9) (fun r_5 _ t H locs ht hvm h_5 hB hz1 hk1 hS => ?_)
  have h_5 : r_5 = (zOut c w.toNatClampNeg p z) := h_5
  subst h_5
  obtain ⟨hP, hD⟩ := hB
  rw [ht] at hP
  have hP : va_P D vwCl (wX h d cA (zSg c w.toNatClampNeg p z) c ++ ((o, .inl (cL, 1, .inr (.inl g))) :: E)) H := hP
  have hD : va_D (zA N0) (wX h d cA (zSg c w.toNatClampNeg p z) c ++ ((o, .inl (cL, 1, .inr (.inl g))) :: E)) := hD
  refine lv_i2l hx hb dL_sing_8 rfl ?_
  refine va_last hx hb hK hP hD hS 8 1 rfl rfl (vp_in_nI (n := 0) (by decide) (by decide)) dL_sing_9 (fun H locs hP hD hS => ?_)
  have hP : va_P D vwCl (wX h d cA (zSg c w.toNatClampNeg p z) c ++ ((o, .inl (cL, 1, .inr (.inl (vp_updL g (0 : Int32).toNatClampNeg (zOut c w.toNatClampNeg p z).toInt64)))) :: E)) H := hP
  have hD : va_D (zA N0) (wX h d cA (zSg c w.toNatClampNeg p z) c ++ ((o, .inl (cL, 1, .inr (.inl (vp_updL g (0 : Int32).toNatClampNeg (zOut c w.toNatClampNeg p z).toInt64)))) :: E)) := hD
  refine lv_goto (tgt := 21) hx hb dL_sing_10 (by decide) ?_
  refine lv_iconst (v := 0) hx hb dL_sing_21 (by decide) ?_
  exact W.iret (v := 0) hx hb hr (fun t ht hW => ⟨⟨_, (), rfl, rfl, ⟨by rw [ht]; exact hP, hD⟩⟩, hS.F ht⟩) hS.2.2 dL_sing_22

set_option maxHeartbeats 4000000 in
set_option maxRecDepth 100000 in
theorem c_L_sing_1 (l : Launch) (hst : l.stackTraces = false) (D : va_G) (N0 : Nat) (cA cL : ClassId) (E : va_W) (h : Nat) (d : Nat → Nat) (z : S7) (c : C5) (o : Nat) (g : Nat → Int64) (w p : Int32) (hw : ¬ zw w) : Met l yL_sing wsL_sing ({ frames := 9, cells := 1, slots := 6, locals := 146 }) (va_Pc [.ref h, .int w, .int p, .ref o] (zPre D N0 cA cL (wX h d cA z c ++ ((o, .inl (cL, 1, .inr (.inl g))) :: E)))) (va_Qi (fun (rv : Int32) (_ : Unit) => rv = 1) (fun _ t => zPost D N0 (wX h d cA z c ++ ((o, .inl (cL, 1, .inr (.inl g))) :: E)) t) (zA N0)) 1 6 (zA N0) := by
  refine va_MetW (cc := cL_sing) (maxL := 5) (ret := (some .int)) (by decide) rfl ?_
  intro pr e s m ag below meth cd s₁ B hml hv
  obtain ⟨rfl, hN, hP, hD, hK, hE⟩ := hv
  have hx := B.exec
  have hb := B.bytes
  have hr := B.returns
  have hts := atoms_spec (ws := wsL_sing) B.pre
  have hown : s.vm.findClass RL = some m.cls := findClass_of_methodNamed B.named
  have hlocks := B.notSynchronized
  have htab := vx_table (x := yL_sing) B (hts (.codeWith yL_sing cL_sing 5 (some .int) [(0, 10, 13, 22), (0, 10, 17, 13)]) List.mem_cons_self)
  have hS : va_S (zA N0) s.heap s.heap [] := va_S.rf
  have hl := lv_entry ([.ref h, .int w, .int p, .ref o]) (n := 5) (Nat.le_of_ble_eq_true rfl)
  rw [lg_entry_eq]
  generalize (lg_sl ([.ref h, .int w, .int p, .ref o]) ++ List.replicate (5 - (lg_sl ([.ref h, .int w, .int p, .ref o])).length) Slot.unset).toArray = ls at hl ⊢
  have hl : lv_has ls 5 [(0, .ref h), (1, .int w), (2, .int p), (3, .ref o)] := hl
  refine lv_aload_n hx hb dL_sing_0 rfl (lv_at hl 3 rfl) ?_
  refine lv_iconst (v := 0) hx hb dL_sing_1 (by decide) ?_
  refine lv_aload_n hx hb dL_sing_2 rfl (lv_at hl 0 rfl) ?_
  refine lv_iload_n hx hb dL_sing_3 rfl (lv_at hl 1 rfl) ?_
  refine lv_iload_n hx hb dL_sing_4 rfl (lv_at hl 2 rfl) ?_
  refine vx_calli (vx_runV (As := [.int w, .int p]) (rest := [.int 0, .ref o]) ⟨hx, hb, hml, hown, hts⟩ (x_X0_sing_1 l hst N0 s.heap h w p hw) (cwV 2 hts gL_sing_X0_sing rfl rfl rfl (by decide +kernel) ⟨Nat.le_of_ble_eq_true rfl, Nat.le_of_ble_eq_true rfl⟩) ⟨zPx.blind, va_recv hK hP (ci := 0) (q0 := 0) rfl rfl, zPx.call hN hE hS⟩ rfl rfl hl.1 rfl (lv_room (Nat.le_of_ble_eq_true rfl)) dL_sing_5 ⟨Nat.le_refl _, Nat.le_refl _⟩) hS (fun _ _ h9 => h9) (fun _ h9 => h9) (fun _ _ h9 => h9) (fun Ex ce q9 u t H locs ht hvm hp9 hB hz1 hk1 hS hce hcv hcl => ?_) (fun r u t H locs ht hvm hp9 hB hz1 hk1 hS => hp9.elim)
  obtain ⟨rfl, hB2, hB3⟩ := hB
  have hP : va_P D vwCl (wX h d cA z c ++ ((o, .inl (cL, 1, .inr (.inl g))) :: E)) H := hP.kept (fun k q hq => by rw [← ht]; exact hB3 q.1 ((hP k q hq).lt))
  refine vx_catch (name := xO) hown [] (⟨0, 10, 13, 22⟩ : ExceptionTableEntry) [(⟨0, 10, 17, 13⟩ : ExceptionTableEntry)] (htab.trans rfl) (fun z9 h9 => nomatch h9) (by decide) (by decide) (hts (.classLink RL 22 xO) (by decide +kernel)) (va_Nw.use rfl hE.2.2.2.2.2.2.2.2.2.2.1) hce hcv hcl ?_
  refine lv_astore (lv' := [(4, .ref q9), (0, .ref h), (1, .int w), (2, .int p), (3, .ref o)]) hx hb dL_sing_13 hl (by decide) rfl (fun ls hl => ?_)
  refine lv_iconst (v := 1) hx hb dL_sing_15 (by decide) ?_
  exact W.iret (v := 1) hx hb hr (fun t ht hW => ⟨⟨_, (), rfl, rfl, ⟨by rw [ht]; exact hP, hD⟩⟩, hS.F ht⟩) hS.2.2 dL_sing_16

set_option maxHeartbeats 4000000 in
set_option maxRecDepth 100000 in
theorem c_L_sing_2 (l : Launch) (hst : l.stackTraces = false) (D : va_G) (N0 : Nat) (cA cL : ClassId) (E : va_W) (h : Nat) (d : Nat → Nat) (z : S7) (c : C5) (o : Nat) (g : Nat → Int64) (w p : Int32) (hw : zw w) (hp : ¬ zp p) : Met l yL_sing wsL_sing ({ frames := 9, cells := 1, slots := 6, locals := 146 }) (va_Pc [.ref h, .int w, .int p, .ref o] (zPre D N0 cA cL (wX h d cA z c ++ ((o, .inl (cL, 1, .inr (.inl g))) :: E)))) (va_Qi (fun (rv : Int32) (_ : Unit) => rv = 2) (fun _ t => zPost D N0 (wX h d cA z c ++ ((o, .inl (cL, 1, .inr (.inl g))) :: E)) t) (zA N0)) 1 6 (zA N0) := by
  refine va_MetW (cc := cL_sing) (maxL := 5) (ret := (some .int)) (by decide) rfl ?_
  intro pr e s m ag below meth cd s₁ B hml hv
  obtain ⟨rfl, hN, hP, hD, hK, hE⟩ := hv
  have hx := B.exec
  have hb := B.bytes
  have hr := B.returns
  have hts := atoms_spec (ws := wsL_sing) B.pre
  have hown : s.vm.findClass RL = some m.cls := findClass_of_methodNamed B.named
  have hlocks := B.notSynchronized
  have htab := vx_table (x := yL_sing) B (hts (.codeWith yL_sing cL_sing 5 (some .int) [(0, 10, 13, 22), (0, 10, 17, 13)]) List.mem_cons_self)
  have hS : va_S (zA N0) s.heap s.heap [] := va_S.rf
  have hl := lv_entry ([.ref h, .int w, .int p, .ref o]) (n := 5) (Nat.le_of_ble_eq_true rfl)
  rw [lg_entry_eq]
  generalize (lg_sl ([.ref h, .int w, .int p, .ref o]) ++ List.replicate (5 - (lg_sl ([.ref h, .int w, .int p, .ref o])).length) Slot.unset).toArray = ls at hl ⊢
  have hl : lv_has ls 5 [(0, .ref h), (1, .int w), (2, .int p), (3, .ref o)] := hl
  refine lv_aload_n hx hb dL_sing_0 rfl (lv_at hl 3 rfl) ?_
  refine lv_iconst (v := 0) hx hb dL_sing_1 (by decide) ?_
  refine lv_aload_n hx hb dL_sing_2 rfl (lv_at hl 0 rfl) ?_
  refine lv_iload_n hx hb dL_sing_3 rfl (lv_at hl 1 rfl) ?_
  refine lv_iload_n hx hb dL_sing_4 rfl (lv_at hl 2 rfl) ?_
  refine vx_calli (vx_runV (As := [.int w, .int p]) (rest := [.int 0, .ref o]) ⟨hx, hb, hml, hown, hts⟩ (x_X0_sing_2 l hst N0 s.heap h w p hw hp) (cwV 2 hts gL_sing_X0_sing rfl rfl rfl (by decide +kernel) ⟨Nat.le_of_ble_eq_true rfl, Nat.le_of_ble_eq_true rfl⟩) ⟨zPx.blind, va_recv hK hP (ci := 0) (q0 := 0) rfl rfl, zPx.call hN hE hS⟩ rfl rfl hl.1 rfl (lv_room (Nat.le_of_ble_eq_true rfl)) dL_sing_5 ⟨Nat.le_refl _, Nat.le_refl _⟩) hS (fun _ _ h9 => h9) (fun _ h9 => h9) (fun _ _ h9 => h9) (fun Ex ce q9 u t H locs ht hvm hp9 hB hz1 hk1 hS hce hcv hcl => ?_) (fun r u t H locs ht hvm hp9 hB hz1 hk1 hS => hp9.elim)
  obtain ⟨rfl, hB2, hB3⟩ := hB
  have hP : va_P D vwCl (wX h d cA z c ++ ((o, .inl (cL, 1, .inr (.inl g))) :: E)) H := hP.kept (fun k q hq => by rw [← ht]; exact hB3 q.1 ((hP k q hq).lt))
  refine vx_catch (name := xI) hown [(⟨0, 10, 13, 22⟩ : ExceptionTableEntry)] (⟨0, 10, 17, 13⟩ : ExceptionTableEntry) [] (htab.trans rfl) (fun z9 h9 => by rw [List.mem_singleton.mp h9]; exact Or.inr ⟨by decide, xO, hts (.classLink RL 22 xO) (by decide +kernel), hE.2.2.2.2.2.2.2.1⟩) (by decide) (by decide) (hts (.classLink RL 13 xI) (by decide +kernel)) (va_Nw.use rfl hE.2.2.2.2.2.2.2.2.2.1) hce hcv hcl ?_
  refine lv_astore (lv' := [(4, .ref q9), (0, .ref h), (1, .int w), (2, .int p), (3, .ref o)]) hx hb dL_sing_17 hl (by decide) rfl (fun ls hl => ?_)
  refine lv_iconst (v := 2) hx hb dL_sing_19 (by decide) ?_
  exact W.iret (v := 2) hx hb hr (fun t ht hW => ⟨⟨_, (), rfl, rfl, ⟨by rw [ht]; exact hP, hD⟩⟩, hS.F ht⟩) hS.2.2 dL_sing_20

set_option maxHeartbeats 4000000 in
set_option maxRecDepth 100000 in
theorem c_L_framesToRung_v (l : Launch) (D : va_G) (N0 : Nat) (cA cL : ClassId) (E : va_W) (h : Nat) (d : Nat → Nat) (z : S7) (c : C5) (o : Nat) (g : Nat → Int64) (w p : Int32) (hc : okC c) (hw : zw w) (hp : zp p) : Met l yL_framesToRung wsL_framesToRung ({ frames := 7, cells := 0, slots := 0, locals := 160 }) (va_Pc [.ref h, .int w, .int p, .ref o] (zPre D N0 cA cL (wX h d cA z c ++ ((o, .inl (cL, 1, .inr (.inl g))) :: E)))) (va_Qi (fun (rv : Int32) (_ : Unit) => rv = 0) (fun _ t => zPost D N0 (wX h d cA z c ++ ((o, .inl (cL, 1, .inr (.inl (vp_updL g (0 : Int32).toNatClampNeg (zFR c w.toNatClampNeg p z).toInt64)))) :: E)) t) (zA N0)) 0 0 (zA N0) := by
  refine va_MetW (cc := cL_framesToRung) (maxL := 5) (ret := (some .int)) (by decide) rfl ?_
  intro pr e s m ag below meth cd s₁ B hml hv
  obtain ⟨rfl, hN, hP, hD, hK, hE⟩ := hv
  have hx := B.exec
  have hb := B.bytes
  have hr := B.returns
  have hts := atoms_spec (ws := wsL_framesToRung) B.pre
  have hown : s.vm.findClass RL = some m.cls := findClass_of_methodNamed B.named
  have hlocks := B.notSynchronized
  have hS : va_S (zA N0) s.heap s.heap [] := va_S.rf
  have hl := lv_entry ([.ref h, .int w, .int p, .ref o]) (n := 5) (Nat.le_of_ble_eq_true rfl)
  rw [lg_entry_eq]
  generalize (lg_sl ([.ref h, .int w, .int p, .ref o]) ++ List.replicate (5 - (lg_sl ([.ref h, .int w, .int p, .ref o])).length) Slot.unset).toArray = ls at hl ⊢
  have hl : lv_has ls 5 [(0, .ref h), (1, .int w), (2, .int p), (3, .ref o)] := hl
  refine lv_aload_n hx hb dL_framesToRung_0 rfl (lv_at hl 3 rfl) ?_
  refine lv_iconst (v := 0) hx hb dL_framesToRung_1 (by decide) ?_
  refine lv_aload_n hx hb dL_framesToRung_2 rfl (lv_at hl 0 rfl) ?_
  refine lv_iload_n hx hb dL_framesToRung_3 rfl (lv_at hl 1 rfl) ?_
  refine lv_iload_n hx hb dL_framesToRung_4 rfl (lv_at hl 2 rfl) ?_
  refine vp_callSi ((va_runV (As := [.int w, .int p]) (rest := [.int 0, .ref o]) ⟨hx, hb, hml, hown, hts⟩ (c_X0_framesToRung_v l D N0 cA cL ((o, .inl (cL, 1, .inr (.inl g))) :: E) h d z c w p hc hw hp) (cwV 2 hts gL_framesToRung_X0_framesToRung rfl rfl rfl (by decide +kernel) ⟨Nat.le_of_ble_eq_true rfl, Nat.le_of_ble_eq_true rfl⟩) ⟨zPre.blind, va_recv hK hP (ci := 0) (q0 := 0) rfl rfl, zPre.call hN hP hD hK hE hS⟩ rfl rfl hl.1 rfl (lv_room (Nat.le_of_ble_eq_true rfl)) dL_framesToRung_5 ⟨Nat.zero_le _, Nat.zero_le _⟩).run) (fun r_5 h_5 => ?_)
  have h_5 : r_5 = (zFR c w.toNatClampNeg p z) := h_5
  subst h_5
  refine lv_i2l hx hb dL_framesToRung_8 rfl ?_
  refine va_last hx hb hK hP hD hS 8 1 rfl rfl (vp_in_nI (n := 0) (by decide) (by decide)) dL_framesToRung_9 (fun H locs hP hD hS => ?_)
  have hP : va_P D vwCl (wX h d cA z c ++ ((o, .inl (cL, 1, .inr (.inl (vp_updL g (0 : Int32).toNatClampNeg (zFR c w.toNatClampNeg p z).toInt64)))) :: E)) H := hP
  have hD : va_D (zA N0) (wX h d cA z c ++ ((o, .inl (cL, 1, .inr (.inl (vp_updL g (0 : Int32).toNatClampNeg (zFR c w.toNatClampNeg p z).toInt64)))) :: E)) := hD
  refine lv_goto (tgt := 21) hx hb dL_framesToRung_10 (by decide) ?_
  refine lv_iconst (v := 0) hx hb dL_framesToRung_21 (by decide) ?_
  exact W.iret (v := 0) hx hb hr (fun t ht hW => ⟨⟨_, (), rfl, rfl, ⟨by rw [ht]; exact hP, hD⟩⟩, hS.F ht⟩) hS.2.2 dL_framesToRung_22

set_option maxHeartbeats 4000000 in
set_option maxRecDepth 100000 in
theorem c_L_framesToRung_1 (l : Launch) (hst : l.stackTraces = false) (D : va_G) (N0 : Nat) (cA cL : ClassId) (E : va_W) (h : Nat) (d : Nat → Nat) (z : S7) (c : C5) (o : Nat) (g : Nat → Int64) (w p : Int32) (hw : ¬ zw w) : Met l yL_framesToRung wsL_framesToRung ({ frames := 9, cells := 1, slots := 6, locals := 149 }) (va_Pc [.ref h, .int w, .int p, .ref o] (zPre D N0 cA cL (wX h d cA z c ++ ((o, .inl (cL, 1, .inr (.inl g))) :: E)))) (va_Qi (fun (rv : Int32) (_ : Unit) => rv = 1) (fun _ t => zPost D N0 (wX h d cA z c ++ ((o, .inl (cL, 1, .inr (.inl g))) :: E)) t) (zA N0)) 1 6 (zA N0) := by
  refine va_MetW (cc := cL_framesToRung) (maxL := 5) (ret := (some .int)) (by decide) rfl ?_
  intro pr e s m ag below meth cd s₁ B hml hv
  obtain ⟨rfl, hN, hP, hD, hK, hE⟩ := hv
  have hx := B.exec
  have hb := B.bytes
  have hr := B.returns
  have hts := atoms_spec (ws := wsL_framesToRung) B.pre
  have hown : s.vm.findClass RL = some m.cls := findClass_of_methodNamed B.named
  have hlocks := B.notSynchronized
  have htab := vx_table (x := yL_framesToRung) B (hts (.codeWith yL_framesToRung cL_framesToRung 5 (some .int) [(0, 10, 13, 22), (0, 10, 17, 13)]) List.mem_cons_self)
  have hS : va_S (zA N0) s.heap s.heap [] := va_S.rf
  have hl := lv_entry ([.ref h, .int w, .int p, .ref o]) (n := 5) (Nat.le_of_ble_eq_true rfl)
  rw [lg_entry_eq]
  generalize (lg_sl ([.ref h, .int w, .int p, .ref o]) ++ List.replicate (5 - (lg_sl ([.ref h, .int w, .int p, .ref o])).length) Slot.unset).toArray = ls at hl ⊢
  have hl : lv_has ls 5 [(0, .ref h), (1, .int w), (2, .int p), (3, .ref o)] := hl
  refine lv_aload_n hx hb dL_framesToRung_0 rfl (lv_at hl 3 rfl) ?_
  refine lv_iconst (v := 0) hx hb dL_framesToRung_1 (by decide) ?_
  refine lv_aload_n hx hb dL_framesToRung_2 rfl (lv_at hl 0 rfl) ?_
  refine lv_iload_n hx hb dL_framesToRung_3 rfl (lv_at hl 1 rfl) ?_
  refine lv_iload_n hx hb dL_framesToRung_4 rfl (lv_at hl 2 rfl) ?_
  refine vx_calli (vx_runV (As := [.int w, .int p]) (rest := [.int 0, .ref o]) ⟨hx, hb, hml, hown, hts⟩ (x_X0_framesToRung_1 l hst N0 s.heap h w p hw) (cwV 2 hts gL_framesToRung_X0_framesToRung rfl rfl rfl (by decide +kernel) ⟨Nat.le_of_ble_eq_true rfl, Nat.le_of_ble_eq_true rfl⟩) ⟨zPx.blind, va_recv hK hP (ci := 0) (q0 := 0) rfl rfl, zPx.call hN hE hS⟩ rfl rfl hl.1 rfl (lv_room (Nat.le_of_ble_eq_true rfl)) dL_framesToRung_5 ⟨Nat.le_refl _, Nat.le_refl _⟩) hS (fun _ _ h9 => h9) (fun _ h9 => h9) (fun _ _ h9 => h9) (fun Ex ce q9 u t H locs ht hvm hp9 hB hz1 hk1 hS hce hcv hcl => ?_) (fun r u t H locs ht hvm hp9 hB hz1 hk1 hS => hp9.elim)
  obtain ⟨rfl, hB2, hB3⟩ := hB
  have hP : va_P D vwCl (wX h d cA z c ++ ((o, .inl (cL, 1, .inr (.inl g))) :: E)) H := hP.kept (fun k q hq => by rw [← ht]; exact hB3 q.1 ((hP k q hq).lt))
  refine vx_catch (name := xO) hown [] (⟨0, 10, 13, 22⟩ : ExceptionTableEntry) [(⟨0, 10, 17, 13⟩ : ExceptionTableEntry)] (htab.trans rfl) (fun z9 h9 => nomatch h9) (by decide) (by decide) (hts (.classLink RL 22 xO) (by decide +kernel)) (va_Nw.use rfl hE.2.2.2.2.2.2.2.2.2.2.1) hce hcv hcl ?_
  refine lv_astore (lv' := [(4, .ref q9), (0, .ref h), (1, .int w), (2, .int p), (3, .ref o)]) hx hb dL_framesToRung_13 hl (by decide) rfl (fun ls hl => ?_)
  refine lv_iconst (v := 1) hx hb dL_framesToRung_15 (by decide) ?_
  exact W.iret (v := 1) hx hb hr (fun t ht hW => ⟨⟨_, (), rfl, rfl, ⟨by rw [ht]; exact hP, hD⟩⟩, hS.F ht⟩) hS.2.2 dL_framesToRung_16

set_option maxHeartbeats 4000000 in
set_option maxRecDepth 100000 in
theorem c_L_framesToRung_2 (l : Launch) (hst : l.stackTraces = false) (D : va_G) (N0 : Nat) (cA cL : ClassId) (E : va_W) (h : Nat) (d : Nat → Nat) (z : S7) (c : C5) (o : Nat) (g : Nat → Int64) (w p : Int32) (hw : zw w) (hp : ¬ zp p) : Met l yL_framesToRung wsL_framesToRung ({ frames := 9, cells := 1, slots := 6, locals := 149 }) (va_Pc [.ref h, .int w, .int p, .ref o] (zPre D N0 cA cL (wX h d cA z c ++ ((o, .inl (cL, 1, .inr (.inl g))) :: E)))) (va_Qi (fun (rv : Int32) (_ : Unit) => rv = 2) (fun _ t => zPost D N0 (wX h d cA z c ++ ((o, .inl (cL, 1, .inr (.inl g))) :: E)) t) (zA N0)) 1 6 (zA N0) := by
  refine va_MetW (cc := cL_framesToRung) (maxL := 5) (ret := (some .int)) (by decide) rfl ?_
  intro pr e s m ag below meth cd s₁ B hml hv
  obtain ⟨rfl, hN, hP, hD, hK, hE⟩ := hv
  have hx := B.exec
  have hb := B.bytes
  have hr := B.returns
  have hts := atoms_spec (ws := wsL_framesToRung) B.pre
  have hown : s.vm.findClass RL = some m.cls := findClass_of_methodNamed B.named
  have hlocks := B.notSynchronized
  have htab := vx_table (x := yL_framesToRung) B (hts (.codeWith yL_framesToRung cL_framesToRung 5 (some .int) [(0, 10, 13, 22), (0, 10, 17, 13)]) List.mem_cons_self)
  have hS : va_S (zA N0) s.heap s.heap [] := va_S.rf
  have hl := lv_entry ([.ref h, .int w, .int p, .ref o]) (n := 5) (Nat.le_of_ble_eq_true rfl)
  rw [lg_entry_eq]
  generalize (lg_sl ([.ref h, .int w, .int p, .ref o]) ++ List.replicate (5 - (lg_sl ([.ref h, .int w, .int p, .ref o])).length) Slot.unset).toArray = ls at hl ⊢
  have hl : lv_has ls 5 [(0, .ref h), (1, .int w), (2, .int p), (3, .ref o)] := hl
  refine lv_aload_n hx hb dL_framesToRung_0 rfl (lv_at hl 3 rfl) ?_
  refine lv_iconst (v := 0) hx hb dL_framesToRung_1 (by decide) ?_
  refine lv_aload_n hx hb dL_framesToRung_2 rfl (lv_at hl 0 rfl) ?_
  refine lv_iload_n hx hb dL_framesToRung_3 rfl (lv_at hl 1 rfl) ?_
  refine lv_iload_n hx hb dL_framesToRung_4 rfl (lv_at hl 2 rfl) ?_
  refine vx_calli (vx_runV (As := [.int w, .int p]) (rest := [.int 0, .ref o]) ⟨hx, hb, hml, hown, hts⟩ (x_X0_framesToRung_2 l hst N0 s.heap h w p hw hp) (cwV 2 hts gL_framesToRung_X0_framesToRung rfl rfl rfl (by decide +kernel) ⟨Nat.le_of_ble_eq_true rfl, Nat.le_of_ble_eq_true rfl⟩) ⟨zPx.blind, va_recv hK hP (ci := 0) (q0 := 0) rfl rfl, zPx.call hN hE hS⟩ rfl rfl hl.1 rfl (lv_room (Nat.le_of_ble_eq_true rfl)) dL_framesToRung_5 ⟨Nat.le_refl _, Nat.le_refl _⟩) hS (fun _ _ h9 => h9) (fun _ h9 => h9) (fun _ _ h9 => h9) (fun Ex ce q9 u t H locs ht hvm hp9 hB hz1 hk1 hS hce hcv hcl => ?_) (fun r u t H locs ht hvm hp9 hB hz1 hk1 hS => hp9.elim)
  obtain ⟨rfl, hB2, hB3⟩ := hB
  have hP : va_P D vwCl (wX h d cA z c ++ ((o, .inl (cL, 1, .inr (.inl g))) :: E)) H := hP.kept (fun k q hq => by rw [← ht]; exact hB3 q.1 ((hP k q hq).lt))
  refine vx_catch (name := xI) hown [(⟨0, 10, 13, 22⟩ : ExceptionTableEntry)] (⟨0, 10, 17, 13⟩ : ExceptionTableEntry) [] (htab.trans rfl) (fun z9 h9 => by rw [List.mem_singleton.mp h9]; exact Or.inr ⟨by decide, xO, hts (.classLink RL 22 xO) (by decide +kernel), hE.2.2.2.2.2.2.2.1⟩) (by decide) (by decide) (hts (.classLink RL 13 xI) (by decide +kernel)) (va_Nw.use rfl hE.2.2.2.2.2.2.2.2.2.1) hce hcv hcl ?_
  refine lv_astore (lv' := [(4, .ref q9), (0, .ref h), (1, .int w), (2, .int p), (3, .ref o)]) hx hb dL_framesToRung_17 hl (by decide) rfl (fun ls hl => ?_)
  refine lv_iconst (v := 2) hx hb dL_framesToRung_19 (by decide) ?_
  exact W.iret (v := 2) hx hb hr (fun t ht hW => ⟨⟨_, (), rfl, rfl, ⟨by rw [ht]; exact hP, hD⟩⟩, hS.F ht⟩) hS.2.2 dL_framesToRung_20

set_option maxHeartbeats 4000000 in
set_option maxRecDepth 100000 in
theorem c_L_slide_v (l : Launch) (D : va_G) (N0 : Nat) (cA cL : ClassId) (E : va_W) (h : Nat) (d : Nat → Nat) (z : S7) (c : C5) (o : Nat) (g : Nat → Int64) (w a b : Int32) (f : Nat) (hc : okC c) (hw : zw w) (hpa : zp a) (hpb : zp b) (hf : 2 ≤ f) (hf2 : f ≤ 50) : Met l yL_slide wsL_slide ({ frames := 8, cells := 0, slots := 0, locals := 187 }) (va_Pc [.ref h, .int w, .int a, .int b, .int (nI f), .ref o] (zPre D N0 cA cL (wX h d cA z c ++ ((o, .inl (cL, 1, .inr (.inl g))) :: E)))) (va_Qi (fun (rv : Int32) (_ : Unit) => rv = 0) (fun _ t => zPost D N0 (wX h d cA (zSl c w.toNatClampNeg a b f z f) c ++ ((o, .inl (cL, 1, .inr (.inl (vp_updL g (0 : Int32).toNatClampNeg ((zSl c w.toNatClampNeg a b f z f).2.2.2.1 w.toNatClampNeg - z.2.2.2.1 w.toNatClampNeg).toInt64)))) :: E)) t) (zA N0)) 0 0 (zA N0) := by
  refine va_MetW (cc := cL_slide) (maxL := 7) (ret := (some .int)) (by decide) rfl ?_
  intro pr e s m ag below meth cd s₁ B hml hv
  obtain ⟨rfl, hN, hP, hD, hK, hE⟩ := hv
  have hx := B.exec
  have hb := B.bytes
  have hr := B.returns
  have hts := atoms_spec (ws := wsL_slide) B.pre
  have hown : s.vm.findClass RL = some m.cls := findClass_of_methodNamed B.named
  have hlocks := B.notSynchronized
  have hS : va_S (zA N0) s.heap s.heap [] := va_S.rf
  have hl := lv_entry ([.ref h, .int w, .int a, .int b, .int (nI f), .ref o]) (n := 7) (Nat.le_of_ble_eq_true rfl)
  rw [lg_entry_eq]
  generalize (lg_sl ([.ref h, .int w, .int a, .int b, .int (nI f), .ref o]) ++ List.replicate (7 - (lg_sl ([.ref h, .int w, .int a, .int b, .int (nI f), .ref o])).length) Slot.unset).toArray = ls at hl ⊢
  have hl : lv_has ls 7 [(0, .ref h), (1, .int w), (2, .int a), (3, .int b), (4, .int (nI f)), (5, .ref o)] := hl
  refine lv_aload hx hb dL_slide_0 (lv_at hl 5 rfl) ?_
  refine lv_iconst (v := 0) hx hb dL_slide_2 (by decide) ?_
  refine lv_aload_n hx hb dL_slide_3 rfl (lv_at hl 0 rfl) ?_
  refine lv_iload_n hx hb dL_slide_4 rfl (lv_at hl 1 rfl) ?_
  refine lv_iload_n hx hb dL_slide_5 rfl (lv_at hl 2 rfl) ?_
  refine lv_iload_n hx hb dL_slide_6 rfl (lv_at hl 3 rfl) ?_
  refine lv_iload hx hb dL_slide_7 (lv_at hl 4 rfl) ?_
  refine va_calli (va_runV (As := [.int w, .int a, .int b, .int (nI f)]) (rest := [.int 0, .ref o]) ⟨hx, hb, hml, hown, hts⟩ (c_X0_slide_v l D N0 cA cL ((o, .inl (cL, 1, .inr (.inl g))) :: E) h d z c w a b f hc hw hpa hpb hf hf2) (cwV 4 hts gL_slide_X0_slide rfl rfl rfl (by decide +kernel) ⟨Nat.le_of_ble_eq_true rfl, Nat.le_of_ble_eq_true rfl⟩) ⟨zPre.blind, va_recv hK hP (ci := 0) (q0 := 0) rfl rfl, zPre.call hN hP hD hK hE hS⟩ rfl rfl hl.1 rfl (lv_room (Nat.le_of_ble_eq_true rfl)) dL_slide_9 ⟨Nat.zero_le _, Nat.zero_le _⟩) hS (fun _ _ h9 => h9) (fun _ h9 => h9) (fun r_9 _ t H locs ht hvm h_9 hB hz1 hk1 hS => ?_)
  have h_9 : r_9 = ((zSl c w.toNatClampNeg a b f z f).2.2.2.1 w.toNatClampNeg - z.2.2.2.1 w.toNatClampNeg) := h_9
  subst h_9
  obtain ⟨hP, hD⟩ := hB
  rw [ht] at hP
  have hP : va_P D vwCl (wX h d cA (zSl c w.toNatClampNeg a b f z f) c ++ ((o, .inl (cL, 1, .inr (.inl g))) :: E)) H := hP
  have hD : va_D (zA N0) (wX h d cA (zSl c w.toNatClampNeg a b f z f) c ++ ((o, .inl (cL, 1, .inr (.inl g))) :: E)) := hD
  refine lv_i2l hx hb dL_slide_12 rfl ?_
  refine va_last hx hb hK hP hD hS 8 1 rfl rfl (vp_in_nI (n := 0) (by decide) (by decide)) dL_slide_13 (fun H locs hP hD hS => ?_)
  have hP : va_P D vwCl (wX h d cA (zSl c w.toNatClampNeg a b f z f) c ++ ((o, .inl (cL, 1, .inr (.inl (vp_updL g (0 : Int32).toNatClampNeg ((zSl c w.toNatClampNeg a b f z f).2.2.2.1 w.toNatClampNeg - z.2.2.2.1 w.toNatClampNeg).toInt64)))) :: E)) H := hP
  have hD : va_D (zA N0) (wX h d cA (zSl c w.toNatClampNeg a b f z f) c ++ ((o, .inl (cL, 1, .inr (.inl (vp_updL g (0 : Int32).toNatClampNeg ((zSl c w.toNatClampNeg a b f z f).2.2.2.1 w.toNatClampNeg - z.2.2.2.1 w.toNatClampNeg).toInt64)))) :: E)) := hD
  refine lv_goto (tgt := 25) hx hb dL_slide_14 (by decide) ?_
  refine lv_iconst (v := 0) hx hb dL_slide_25 (by decide) ?_
  exact W.iret (v := 0) hx hb hr (fun t ht hW => ⟨⟨_, (), rfl, rfl, ⟨by rw [ht]; exact hP, hD⟩⟩, hS.F ht⟩) hS.2.2 dL_slide_26

set_option maxHeartbeats 4000000 in
set_option maxRecDepth 100000 in
theorem c_L_slide_1 (l : Launch) (hst : l.stackTraces = false) (D : va_G) (N0 : Nat) (cA cL : ClassId) (E : va_W) (h : Nat) (d : Nat → Nat) (z : S7) (c : C5) (o : Nat) (g : Nat → Int64) (w a b f : Int32) (hw : ¬ zw w) : Met l yL_slide wsL_slide ({ frames := 9, cells := 1, slots := 6, locals := 150 }) (va_Pc [.ref h, .int w, .int a, .int b, .int f, .ref o] (zPre D N0 cA cL (wX h d cA z c ++ ((o, .inl (cL, 1, .inr (.inl g))) :: E)))) (va_Qi (fun (rv : Int32) (_ : Unit) => rv = 1) (fun _ t => zPost D N0 (wX h d cA z c ++ ((o, .inl (cL, 1, .inr (.inl g))) :: E)) t) (zA N0)) 1 6 (zA N0) := by
  refine va_MetW (cc := cL_slide) (maxL := 7) (ret := (some .int)) (by decide) rfl ?_
  intro pr e s m ag below meth cd s₁ B hml hv
  obtain ⟨rfl, hN, hP, hD, hK, hE⟩ := hv
  have hx := B.exec
  have hb := B.bytes
  have hr := B.returns
  have hts := atoms_spec (ws := wsL_slide) B.pre
  have hown : s.vm.findClass RL = some m.cls := findClass_of_methodNamed B.named
  have hlocks := B.notSynchronized
  have htab := vx_table (x := yL_slide) B (hts (.codeWith yL_slide cL_slide 7 (some .int) [(0, 14, 17, 22), (0, 14, 21, 13)]) List.mem_cons_self)
  have hS : va_S (zA N0) s.heap s.heap [] := va_S.rf
  have hl := lv_entry ([.ref h, .int w, .int a, .int b, .int f, .ref o]) (n := 7) (Nat.le_of_ble_eq_true rfl)
  rw [lg_entry_eq]
  generalize (lg_sl ([.ref h, .int w, .int a, .int b, .int f, .ref o]) ++ List.replicate (7 - (lg_sl ([.ref h, .int w, .int a, .int b, .int f, .ref o])).length) Slot.unset).toArray = ls at hl ⊢
  have hl : lv_has ls 7 [(0, .ref h), (1, .int w), (2, .int a), (3, .int b), (4, .int f), (5, .ref o)] := hl
  refine lv_aload hx hb dL_slide_0 (lv_at hl 5 rfl) ?_
  refine lv_iconst (v := 0) hx hb dL_slide_2 (by decide) ?_
  refine lv_aload_n hx hb dL_slide_3 rfl (lv_at hl 0 rfl) ?_
  refine lv_iload_n hx hb dL_slide_4 rfl (lv_at hl 1 rfl) ?_
  refine lv_iload_n hx hb dL_slide_5 rfl (lv_at hl 2 rfl) ?_
  refine lv_iload_n hx hb dL_slide_6 rfl (lv_at hl 3 rfl) ?_
  refine lv_iload hx hb dL_slide_7 (lv_at hl 4 rfl) ?_
  refine vx_calli (vx_runV (As := [.int w, .int a, .int b, .int f]) (rest := [.int 0, .ref o]) ⟨hx, hb, hml, hown, hts⟩ (x_X0_slide_1 l hst N0 s.heap h w a b f hw) (cwV 4 hts gL_slide_X0_slide rfl rfl rfl (by decide +kernel) ⟨Nat.le_of_ble_eq_true rfl, Nat.le_of_ble_eq_true rfl⟩) ⟨zPx.blind, va_recv hK hP (ci := 0) (q0 := 0) rfl rfl, zPx.call hN hE hS⟩ rfl rfl hl.1 rfl (lv_room (Nat.le_of_ble_eq_true rfl)) dL_slide_9 ⟨Nat.le_refl _, Nat.le_refl _⟩) hS (fun _ _ h9 => h9) (fun _ h9 => h9) (fun _ _ h9 => h9) (fun Ex ce q9 u t H locs ht hvm hp9 hB hz1 hk1 hS hce hcv hcl => ?_) (fun r u t H locs ht hvm hp9 hB hz1 hk1 hS => hp9.elim)
  obtain ⟨rfl, hB2, hB3⟩ := hB
  have hP : va_P D vwCl (wX h d cA z c ++ ((o, .inl (cL, 1, .inr (.inl g))) :: E)) H := hP.kept (fun k q hq => by rw [← ht]; exact hB3 q.1 ((hP k q hq).lt))
  refine vx_catch (name := xO) hown [] (⟨0, 14, 17, 22⟩ : ExceptionTableEntry) [(⟨0, 14, 21, 13⟩ : ExceptionTableEntry)] (htab.trans rfl) (fun z9 h9 => nomatch h9) (by decide) (by decide) (hts (.classLink RL 22 xO) (by decide +kernel)) (va_Nw.use rfl hE.2.2.2.2.2.2.2.2.2.2.1) hce hcv hcl ?_
  refine lv_astore (lv' := [(6, .ref q9), (0, .ref h), (1, .int w), (2, .int a), (3, .int b), (4, .int f), (5, .ref o)]) hx hb dL_slide_17 hl (by decide) rfl (fun ls hl => ?_)
  refine lv_iconst (v := 1) hx hb dL_slide_19 (by decide) ?_
  exact W.iret (v := 1) hx hb hr (fun t ht hW => ⟨⟨_, (), rfl, rfl, ⟨by rw [ht]; exact hP, hD⟩⟩, hS.F ht⟩) hS.2.2 dL_slide_20

set_option maxHeartbeats 4000000 in
set_option maxRecDepth 100000 in
theorem c_L_slide_2 (l : Launch) (hst : l.stackTraces = false) (D : va_G) (N0 : Nat) (cA cL : ClassId) (E : va_W) (h : Nat) (d : Nat → Nat) (z : S7) (c : C5) (o : Nat) (g : Nat → Int64) (w a b f : Int32) (hw : zw w) (hn : ¬ (zp a ∧ zp b ∧ (2 ≤ f ∧ f ≤ 50))) : Met l yL_slide wsL_slide ({ frames := 9, cells := 1, slots := 6, locals := 150 }) (va_Pc [.ref h, .int w, .int a, .int b, .int f, .ref o] (zPre D N0 cA cL (wX h d cA z c ++ ((o, .inl (cL, 1, .inr (.inl g))) :: E)))) (va_Qi (fun (rv : Int32) (_ : Unit) => rv = 2) (fun _ t => zPost D N0 (wX h d cA z c ++ ((o, .inl (cL, 1, .inr (.inl g))) :: E)) t) (zA N0)) 1 6 (zA N0) := by
  refine va_MetW (cc := cL_slide) (maxL := 7) (ret := (some .int)) (by decide) rfl ?_
  intro pr e s m ag below meth cd s₁ B hml hv
  obtain ⟨rfl, hN, hP, hD, hK, hE⟩ := hv
  have hx := B.exec
  have hb := B.bytes
  have hr := B.returns
  have hts := atoms_spec (ws := wsL_slide) B.pre
  have hown : s.vm.findClass RL = some m.cls := findClass_of_methodNamed B.named
  have hlocks := B.notSynchronized
  have htab := vx_table (x := yL_slide) B (hts (.codeWith yL_slide cL_slide 7 (some .int) [(0, 14, 17, 22), (0, 14, 21, 13)]) List.mem_cons_self)
  have hS : va_S (zA N0) s.heap s.heap [] := va_S.rf
  have hl := lv_entry ([.ref h, .int w, .int a, .int b, .int f, .ref o]) (n := 7) (Nat.le_of_ble_eq_true rfl)
  rw [lg_entry_eq]
  generalize (lg_sl ([.ref h, .int w, .int a, .int b, .int f, .ref o]) ++ List.replicate (7 - (lg_sl ([.ref h, .int w, .int a, .int b, .int f, .ref o])).length) Slot.unset).toArray = ls at hl ⊢
  have hl : lv_has ls 7 [(0, .ref h), (1, .int w), (2, .int a), (3, .int b), (4, .int f), (5, .ref o)] := hl
  refine lv_aload hx hb dL_slide_0 (lv_at hl 5 rfl) ?_
  refine lv_iconst (v := 0) hx hb dL_slide_2 (by decide) ?_
  refine lv_aload_n hx hb dL_slide_3 rfl (lv_at hl 0 rfl) ?_
  refine lv_iload_n hx hb dL_slide_4 rfl (lv_at hl 1 rfl) ?_
  refine lv_iload_n hx hb dL_slide_5 rfl (lv_at hl 2 rfl) ?_
  refine lv_iload_n hx hb dL_slide_6 rfl (lv_at hl 3 rfl) ?_
  refine lv_iload hx hb dL_slide_7 (lv_at hl 4 rfl) ?_
  refine vx_calli (vx_runV (As := [.int w, .int a, .int b, .int f]) (rest := [.int 0, .ref o]) ⟨hx, hb, hml, hown, hts⟩ (x_X0_slide_I l hst N0 s.heap h w a b f hw hn) (cwV 4 hts gL_slide_X0_slide rfl rfl rfl (by decide +kernel) ⟨Nat.le_of_ble_eq_true rfl, Nat.le_of_ble_eq_true rfl⟩) ⟨zPx.blind, va_recv hK hP (ci := 0) (q0 := 0) rfl rfl, zPx.call hN hE hS⟩ rfl rfl hl.1 rfl (lv_room (Nat.le_of_ble_eq_true rfl)) dL_slide_9 ⟨Nat.le_refl _, Nat.le_refl _⟩) hS (fun _ _ h9 => h9) (fun _ h9 => h9) (fun _ _ h9 => h9) (fun Ex ce q9 u t H locs ht hvm hp9 hB hz1 hk1 hS hce hcv hcl => ?_) (fun r u t H locs ht hvm hp9 hB hz1 hk1 hS => hp9.elim)
  obtain ⟨rfl, hB2, hB3⟩ := hB
  have hP : va_P D vwCl (wX h d cA z c ++ ((o, .inl (cL, 1, .inr (.inl g))) :: E)) H := hP.kept (fun k q hq => by rw [← ht]; exact hB3 q.1 ((hP k q hq).lt))
  refine vx_catch (name := xI) hown [(⟨0, 14, 17, 22⟩ : ExceptionTableEntry)] (⟨0, 14, 21, 13⟩ : ExceptionTableEntry) [] (htab.trans rfl) (fun z9 h9 => by rw [List.mem_singleton.mp h9]; exact Or.inr ⟨by decide, xO, hts (.classLink RL 22 xO) (by decide +kernel), hE.2.2.2.2.2.2.2.1⟩) (by decide) (by decide) (hts (.classLink RL 13 xI) (by decide +kernel)) (va_Nw.use rfl hE.2.2.2.2.2.2.2.2.2.1) hce hcv hcl ?_
  refine lv_astore (lv' := [(6, .ref q9), (0, .ref h), (1, .int w), (2, .int a), (3, .int b), (4, .int f), (5, .ref o)]) hx hb dL_slide_21 hl (by decide) rfl (fun ls hl => ?_)
  refine lv_iconst (v := 2) hx hb dL_slide_23 (by decide) ?_
  exact W.iret (v := 2) hx hb hr (fun t ht hW => ⟨⟨_, (), rfl, rfl, ⟨by rw [ht]; exact hP, hD⟩⟩, hS.F ht⟩) hS.2.2 dL_slide_24

set_option maxHeartbeats 4000000 in
set_option maxRecDepth 100000 in
theorem c_L_rest_v (l : Launch) (D : va_G) (N0 : Nat) (cA cL : ClassId) (E : va_W) (h : Nat) (d : Nat → Nat) (z : S7) (c : C5) (o : Nat) (g : Nat → Int64) (w : Int32) (hw : zw w) : Met l yL_rest wsL_rest ({ frames := 2, cells := 0, slots := 0, locals := 42 }) (va_Pc [.ref h, .int w, .ref o] (zPre D N0 cA cL (wX h d cA z c ++ ((o, .inl (cL, 1, .inr (.inl g))) :: E)))) (va_Qi (fun (rv : Int32) (_ : Unit) => rv = 0) (fun _ t => zPost D N0 (wX h d cA ((upd z.1 w.toNatClampNeg (-1)), (upd z.2.1 w.toNatClampNeg 0), z.2.2.1, z.2.2.2.1, z.2.2.2.2.1, z.2.2.2.2.2.1, z.2.2.2.2.2.2) c ++ ((o, .inl (cL, 1, .inr (.inl (vp_updL g (0 : Int32).toNatClampNeg (z.1 w.toNatClampNeg).toInt64)))) :: E)) t) (zA N0)) 0 0 (zA N0) := by
  refine va_MetW (cc := cL_rest) (maxL := 4) (ret := (some .int)) (by decide) rfl ?_
  intro pr e s m ag below meth cd s₁ B hml hv
  obtain ⟨rfl, hN, hP, hD, hK, hE⟩ := hv
  have hx := B.exec
  have hb := B.bytes
  have hr := B.returns
  have hts := atoms_spec (ws := wsL_rest) B.pre
  have hown : s.vm.findClass RL = some m.cls := findClass_of_methodNamed B.named
  have hlocks := B.notSynchronized
  have hS : va_S (zA N0) s.heap s.heap [] := va_S.rf
  have hl := lv_entry ([.ref h, .int w, .ref o]) (n := 4) (Nat.le_of_ble_eq_true rfl)
  rw [lg_entry_eq]
  generalize (lg_sl ([.ref h, .int w, .ref o]) ++ List.replicate (4 - (lg_sl ([.ref h, .int w, .ref o])).length) Slot.unset).toArray = ls at hl ⊢
  have hl : lv_has ls 4 [(0, .ref h), (1, .int w), (2, .ref o)] := hl
  refine lv_aload_n hx hb dL_rest_0 rfl (lv_at hl 2 rfl) ?_
  refine lv_iconst (v := 0) hx hb dL_rest_1 (by decide) ?_
  refine lv_aload_n hx hb dL_rest_2 rfl (lv_at hl 0 rfl) ?_
  refine lv_iload_n hx hb dL_rest_3 rfl (lv_at hl 1 rfl) ?_
  refine va_calli (va_runV (As := [.int w]) (rest := [.int 0, .ref o]) ⟨hx, hb, hml, hown, hts⟩ (c_X0_rest_v l D N0 cA cL ((o, .inl (cL, 1, .inr (.inl g))) :: E) h d z c w hw) (cwV 1 hts gL_rest_X0_rest rfl rfl rfl (by decide +kernel) ⟨Nat.le_of_ble_eq_true rfl, Nat.le_of_ble_eq_true rfl⟩) ⟨zPre.blind, va_recv hK hP (ci := 0) (q0 := 0) rfl rfl, zPre.call hN hP hD hK hE hS⟩ rfl rfl hl.1 rfl (lv_room (Nat.le_of_ble_eq_true rfl)) dL_rest_4 ⟨Nat.zero_le _, Nat.zero_le _⟩) hS (fun _ _ h9 => h9) (fun _ h9 => h9) (fun r_4 _ t H locs ht hvm h_4 hB hz1 hk1 hS => ?_)
  have h_4 : r_4 = (z.1 w.toNatClampNeg) := h_4
  subst h_4
  obtain ⟨hP, hD⟩ := hB
  rw [ht] at hP
  have hP : va_P D vwCl (wX h d cA ((upd z.1 w.toNatClampNeg (-1)), (upd z.2.1 w.toNatClampNeg 0), z.2.2.1, z.2.2.2.1, z.2.2.2.2.1, z.2.2.2.2.2.1, z.2.2.2.2.2.2) c ++ ((o, .inl (cL, 1, .inr (.inl g))) :: E)) H := hP
  have hD : va_D (zA N0) (wX h d cA ((upd z.1 w.toNatClampNeg (-1)), (upd z.2.1 w.toNatClampNeg 0), z.2.2.1, z.2.2.2.1, z.2.2.2.2.1, z.2.2.2.2.2.1, z.2.2.2.2.2.2) c ++ ((o, .inl (cL, 1, .inr (.inl g))) :: E)) := hD
  refine lv_i2l hx hb dL_rest_7 rfl ?_
  refine va_last hx hb hK hP hD hS 8 1 rfl rfl (vp_in_nI (n := 0) (by decide) (by decide)) dL_rest_8 (fun H locs hP hD hS => ?_)
  have hP : va_P D vwCl (wX h d cA ((upd z.1 w.toNatClampNeg (-1)), (upd z.2.1 w.toNatClampNeg 0), z.2.2.1, z.2.2.2.1, z.2.2.2.2.1, z.2.2.2.2.2.1, z.2.2.2.2.2.2) c ++ ((o, .inl (cL, 1, .inr (.inl (vp_updL g (0 : Int32).toNatClampNeg (z.1 w.toNatClampNeg).toInt64)))) :: E)) H := hP
  have hD : va_D (zA N0) (wX h d cA ((upd z.1 w.toNatClampNeg (-1)), (upd z.2.1 w.toNatClampNeg 0), z.2.2.1, z.2.2.2.1, z.2.2.2.2.1, z.2.2.2.2.2.1, z.2.2.2.2.2.2) c ++ ((o, .inl (cL, 1, .inr (.inl (vp_updL g (0 : Int32).toNatClampNeg (z.1 w.toNatClampNeg).toInt64)))) :: E)) := hD
  refine lv_goto (tgt := 15) hx hb dL_rest_9 (by decide) ?_
  refine lv_iconst (v := 0) hx hb dL_rest_15 (by decide) ?_
  exact W.iret (v := 0) hx hb hr (fun t ht hW => ⟨⟨_, (), rfl, rfl, ⟨by rw [ht]; exact hP, hD⟩⟩, hS.F ht⟩) hS.2.2 dL_rest_16

set_option maxHeartbeats 4000000 in
set_option maxRecDepth 100000 in
theorem c_L_rest_1 (l : Launch) (hst : l.stackTraces = false) (D : va_G) (N0 : Nat) (cA cL : ClassId) (E : va_W) (h : Nat) (d : Nat → Nat) (z : S7) (c : C5) (o : Nat) (g : Nat → Int64) (w : Int32) (hw : ¬ zw w) : Met l yL_rest wsL_rest ({ frames := 9, cells := 1, slots := 6, locals := 146 }) (va_Pc [.ref h, .int w, .ref o] (zPre D N0 cA cL (wX h d cA z c ++ ((o, .inl (cL, 1, .inr (.inl g))) :: E)))) (va_Qi (fun (rv : Int32) (_ : Unit) => rv = 1) (fun _ t => zPost D N0 (wX h d cA z c ++ ((o, .inl (cL, 1, .inr (.inl g))) :: E)) t) (zA N0)) 1 6 (zA N0) := by
  refine va_MetW (cc := cL_rest) (maxL := 4) (ret := (some .int)) (by decide) rfl ?_
  intro pr e s m ag below meth cd s₁ B hml hv
  obtain ⟨rfl, hN, hP, hD, hK, hE⟩ := hv
  have hx := B.exec
  have hb := B.bytes
  have hr := B.returns
  have hts := atoms_spec (ws := wsL_rest) B.pre
  have hown : s.vm.findClass RL = some m.cls := findClass_of_methodNamed B.named
  have hlocks := B.notSynchronized
  have htab := vx_table (x := yL_rest) B (hts (.codeWith yL_rest cL_rest 4 (some .int) [(0, 9, 12, 22)]) List.mem_cons_self)
  have hS : va_S (zA N0) s.heap s.heap [] := va_S.rf
  have hl := lv_entry ([.ref h, .int w, .ref o]) (n := 4) (Nat.le_of_ble_eq_true rfl)
  rw [lg_entry_eq]
  generalize (lg_sl ([.ref h, .int w, .ref o]) ++ List.replicate (4 - (lg_sl ([.ref h, .int w, .ref o])).length) Slot.unset).toArray = ls at hl ⊢
  have hl : lv_has ls 4 [(0, .ref h), (1, .int w), (2, .ref o)] := hl
  refine lv_aload_n hx hb dL_rest_0 rfl (lv_at hl 2 rfl) ?_
  refine lv_iconst (v := 0) hx hb dL_rest_1 (by decide) ?_
  refine lv_aload_n hx hb dL_rest_2 rfl (lv_at hl 0 rfl) ?_
  refine lv_iload_n hx hb dL_rest_3 rfl (lv_at hl 1 rfl) ?_
  refine vx_calli (vx_runV (As := [.int w]) (rest := [.int 0, .ref o]) ⟨hx, hb, hml, hown, hts⟩ (x_X0_rest_1 l hst N0 s.heap h w hw) (cwV 1 hts gL_rest_X0_rest rfl rfl rfl (by decide +kernel) ⟨Nat.le_of_ble_eq_true rfl, Nat.le_of_ble_eq_true rfl⟩) ⟨zPx.blind, va_recv hK hP (ci := 0) (q0 := 0) rfl rfl, zPx.call hN hE hS⟩ rfl rfl hl.1 rfl (lv_room (Nat.le_of_ble_eq_true rfl)) dL_rest_4 ⟨Nat.le_refl _, Nat.le_refl _⟩) hS (fun _ _ h9 => h9) (fun _ h9 => h9) (fun _ _ h9 => h9) (fun Ex ce q9 u t H locs ht hvm hp9 hB hz1 hk1 hS hce hcv hcl => ?_) (fun r u t H locs ht hvm hp9 hB hz1 hk1 hS => hp9.elim)
  obtain ⟨rfl, hB2, hB3⟩ := hB
  have hP : va_P D vwCl (wX h d cA z c ++ ((o, .inl (cL, 1, .inr (.inl g))) :: E)) H := hP.kept (fun k q hq => by rw [← ht]; exact hB3 q.1 ((hP k q hq).lt))
  refine vx_catch (name := xO) hown [] (⟨0, 9, 12, 22⟩ : ExceptionTableEntry) [] (htab.trans rfl) (fun z9 h9 => nomatch h9) (by decide) (by decide) (hts (.classLink RL 22 xO) (by decide +kernel)) (va_Nw.use rfl hE.2.2.2.2.2.2.2.2.2.2.1) hce hcv hcl ?_
  refine lv_astore_n (lv' := [(3, .ref q9), (0, .ref h), (1, .int w), (2, .ref o)]) hx hb dL_rest_12 rfl hl (by decide) rfl (fun ls hl => ?_)
  refine lv_iconst (v := 1) hx hb dL_rest_13 (by decide) ?_
  exact W.iret (v := 1) hx hb hr (fun t ht hW => ⟨⟨_, (), rfl, rfl, ⟨by rw [ht]; exact hP, hD⟩⟩, hS.F ht⟩) hS.2.2 dL_rest_14

set_option maxHeartbeats 4000000 in
set_option maxRecDepth 100000 in
theorem c_L_rungOf_v (l : Launch) (D : va_G) (N0 : Nat) (cA cL : ClassId) (E : va_W) (h : Nat) (d : Nat → Nat) (z : S7) (c : C5) (o : Nat) (g : Nat → Int64) (w : Int32) (hw : zw w) : Met l yL_rungOf wsL_rungOf ({ frames := 2, cells := 0, slots := 0, locals := 41 }) (va_Pc [.ref h, .int w, .ref o] (zPre D N0 cA cL (wX h d cA z c ++ ((o, .inl (cL, 1, .inr (.inl g))) :: E)))) (va_Qi (fun (rv : Int32) (_ : Unit) => rv = 0) (fun _ t => zPost D N0 (wX h d cA z c ++ ((o, .inl (cL, 1, .inr (.inl (vp_updL g (0 : Int32).toNatClampNeg (z.1 w.toNatClampNeg).toInt64)))) :: E)) t) (zA N0)) 0 0 (zA N0) := by
  refine va_MetW (cc := cL_rungOf) (maxL := 4) (ret := (some .int)) (by decide) rfl ?_
  intro pr e s m ag below meth cd s₁ B hml hv
  obtain ⟨rfl, hN, hP, hD, hK, hE⟩ := hv
  have hx := B.exec
  have hb := B.bytes
  have hr := B.returns
  have hts := atoms_spec (ws := wsL_rungOf) B.pre
  have hown : s.vm.findClass RL = some m.cls := findClass_of_methodNamed B.named
  have hlocks := B.notSynchronized
  have hS : va_S (zA N0) s.heap s.heap [] := va_S.rf
  have hl := lv_entry ([.ref h, .int w, .ref o]) (n := 4) (Nat.le_of_ble_eq_true rfl)
  rw [lg_entry_eq]
  generalize (lg_sl ([.ref h, .int w, .ref o]) ++ List.replicate (4 - (lg_sl ([.ref h, .int w, .ref o])).length) Slot.unset).toArray = ls at hl ⊢
  have hl : lv_has ls 4 [(0, .ref h), (1, .int w), (2, .ref o)] := hl
  refine lv_aload_n hx hb dL_rungOf_0 rfl (lv_at hl 2 rfl) ?_
  refine lv_iconst (v := 0) hx hb dL_rungOf_1 (by decide) ?_
  refine lv_aload_n hx hb dL_rungOf_2 rfl (lv_at hl 0 rfl) ?_
  refine lv_iload_n hx hb dL_rungOf_3 rfl (lv_at hl 1 rfl) ?_
  refine vp_callSi ((va_runV (As := [.int w]) (rest := [.int 0, .ref o]) ⟨hx, hb, hml, hown, hts⟩ (c_X0_rungOf_v l D N0 cA cL ((o, .inl (cL, 1, .inr (.inl g))) :: E) h d z c w hw) (cwV 1 hts gL_rungOf_X0_rungOf rfl rfl rfl (by decide +kernel) ⟨Nat.le_of_ble_eq_true rfl, Nat.le_of_ble_eq_true rfl⟩) ⟨zPre.blind, va_recv hK hP (ci := 0) (q0 := 0) rfl rfl, zPre.call hN hP hD hK hE hS⟩ rfl rfl hl.1 rfl (lv_room (Nat.le_of_ble_eq_true rfl)) dL_rungOf_4 ⟨Nat.zero_le _, Nat.zero_le _⟩).run) (fun r_4 h_4 => ?_)
  have h_4 : r_4 = (z.1 w.toNatClampNeg) := h_4
  subst h_4
  refine lv_i2l hx hb dL_rungOf_7 rfl ?_
  refine va_last hx hb hK hP hD hS 8 1 rfl rfl (vp_in_nI (n := 0) (by decide) (by decide)) dL_rungOf_8 (fun H locs hP hD hS => ?_)
  have hP : va_P D vwCl (wX h d cA z c ++ ((o, .inl (cL, 1, .inr (.inl (vp_updL g (0 : Int32).toNatClampNeg (z.1 w.toNatClampNeg).toInt64)))) :: E)) H := hP
  have hD : va_D (zA N0) (wX h d cA z c ++ ((o, .inl (cL, 1, .inr (.inl (vp_updL g (0 : Int32).toNatClampNeg (z.1 w.toNatClampNeg).toInt64)))) :: E)) := hD
  refine lv_goto (tgt := 15) hx hb dL_rungOf_9 (by decide) ?_
  refine lv_iconst (v := 0) hx hb dL_rungOf_15 (by decide) ?_
  exact W.iret (v := 0) hx hb hr (fun t ht hW => ⟨⟨_, (), rfl, rfl, ⟨by rw [ht]; exact hP, hD⟩⟩, hS.F ht⟩) hS.2.2 dL_rungOf_16

set_option maxHeartbeats 4000000 in
set_option maxRecDepth 100000 in
theorem c_L_rungOf_1 (l : Launch) (hst : l.stackTraces = false) (D : va_G) (N0 : Nat) (cA cL : ClassId) (E : va_W) (h : Nat) (d : Nat → Nat) (z : S7) (c : C5) (o : Nat) (g : Nat → Int64) (w : Int32) (hw : ¬ zw w) : Met l yL_rungOf wsL_rungOf ({ frames := 9, cells := 1, slots := 6, locals := 145 }) (va_Pc [.ref h, .int w, .ref o] (zPre D N0 cA cL (wX h d cA z c ++ ((o, .inl (cL, 1, .inr (.inl g))) :: E)))) (va_Qi (fun (rv : Int32) (_ : Unit) => rv = 1) (fun _ t => zPost D N0 (wX h d cA z c ++ ((o, .inl (cL, 1, .inr (.inl g))) :: E)) t) (zA N0)) 1 6 (zA N0) := by
  refine va_MetW (cc := cL_rungOf) (maxL := 4) (ret := (some .int)) (by decide) rfl ?_
  intro pr e s m ag below meth cd s₁ B hml hv
  obtain ⟨rfl, hN, hP, hD, hK, hE⟩ := hv
  have hx := B.exec
  have hb := B.bytes
  have hr := B.returns
  have hts := atoms_spec (ws := wsL_rungOf) B.pre
  have hown : s.vm.findClass RL = some m.cls := findClass_of_methodNamed B.named
  have hlocks := B.notSynchronized
  have htab := vx_table (x := yL_rungOf) B (hts (.codeWith yL_rungOf cL_rungOf 4 (some .int) [(0, 9, 12, 22)]) List.mem_cons_self)
  have hS : va_S (zA N0) s.heap s.heap [] := va_S.rf
  have hl := lv_entry ([.ref h, .int w, .ref o]) (n := 4) (Nat.le_of_ble_eq_true rfl)
  rw [lg_entry_eq]
  generalize (lg_sl ([.ref h, .int w, .ref o]) ++ List.replicate (4 - (lg_sl ([.ref h, .int w, .ref o])).length) Slot.unset).toArray = ls at hl ⊢
  have hl : lv_has ls 4 [(0, .ref h), (1, .int w), (2, .ref o)] := hl
  refine lv_aload_n hx hb dL_rungOf_0 rfl (lv_at hl 2 rfl) ?_
  refine lv_iconst (v := 0) hx hb dL_rungOf_1 (by decide) ?_
  refine lv_aload_n hx hb dL_rungOf_2 rfl (lv_at hl 0 rfl) ?_
  refine lv_iload_n hx hb dL_rungOf_3 rfl (lv_at hl 1 rfl) ?_
  refine vx_calli (vx_runV (As := [.int w]) (rest := [.int 0, .ref o]) ⟨hx, hb, hml, hown, hts⟩ (x_X0_rungOf_1 l hst N0 s.heap h w hw) (cwV 1 hts gL_rungOf_X0_rungOf rfl rfl rfl (by decide +kernel) ⟨Nat.le_of_ble_eq_true rfl, Nat.le_of_ble_eq_true rfl⟩) ⟨zPx.blind, va_recv hK hP (ci := 0) (q0 := 0) rfl rfl, zPx.call hN hE hS⟩ rfl rfl hl.1 rfl (lv_room (Nat.le_of_ble_eq_true rfl)) dL_rungOf_4 ⟨Nat.le_refl _, Nat.le_refl _⟩) hS (fun _ _ h9 => h9) (fun _ h9 => h9) (fun _ _ h9 => h9) (fun Ex ce q9 u t H locs ht hvm hp9 hB hz1 hk1 hS hce hcv hcl => ?_) (fun r u t H locs ht hvm hp9 hB hz1 hk1 hS => hp9.elim)
  obtain ⟨rfl, hB2, hB3⟩ := hB
  have hP : va_P D vwCl (wX h d cA z c ++ ((o, .inl (cL, 1, .inr (.inl g))) :: E)) H := hP.kept (fun k q hq => by rw [← ht]; exact hB3 q.1 ((hP k q hq).lt))
  refine vx_catch (name := xO) hown [] (⟨0, 9, 12, 22⟩ : ExceptionTableEntry) [] (htab.trans rfl) (fun z9 h9 => nomatch h9) (by decide) (by decide) (hts (.classLink RL 22 xO) (by decide +kernel)) (va_Nw.use rfl hE.2.2.2.2.2.2.2.2.2.2.1) hce hcv hcl ?_
  refine lv_astore_n (lv' := [(3, .ref q9), (0, .ref h), (1, .int w), (2, .ref o)]) hx hb dL_rungOf_12 rfl hl (by decide) rfl (fun ls hl => ?_)
  refine lv_iconst (v := 1) hx hb dL_rungOf_13 (by decide) ?_
  exact W.iret (v := 1) hx hb hr (fun t ht hW => ⟨⟨_, (), rfl, rfl, ⟨by rw [ht]; exact hP, hD⟩⟩, hS.F ht⟩) hS.2.2 dL_rungOf_14

set_option maxHeartbeats 4000000 in
set_option maxRecDepth 100000 in
theorem c_L_nudgeOf_v (l : Launch) (D : va_G) (N0 : Nat) (cA cL : ClassId) (E : va_W) (h : Nat) (d : Nat → Nat) (z : S7) (c : C5) (o : Nat) (g : Nat → Int64) (w : Int32) (hw : zw w) : Met l yL_nudgeOf wsL_nudgeOf ({ frames := 2, cells := 0, slots := 0, locals := 41 }) (va_Pc [.ref h, .int w, .ref o] (zPre D N0 cA cL (wX h d cA z c ++ ((o, .inl (cL, 1, .inr (.inl g))) :: E)))) (va_Qi (fun (rv : Int32) (_ : Unit) => rv = 0) (fun _ t => zPost D N0 (wX h d cA z c ++ ((o, .inl (cL, 1, .inr (.inl (vp_updL g (0 : Int32).toNatClampNeg (z.2.1 w.toNatClampNeg).toInt64)))) :: E)) t) (zA N0)) 0 0 (zA N0) := by
  refine va_MetW (cc := cL_nudgeOf) (maxL := 4) (ret := (some .int)) (by decide) rfl ?_
  intro pr e s m ag below meth cd s₁ B hml hv
  obtain ⟨rfl, hN, hP, hD, hK, hE⟩ := hv
  have hx := B.exec
  have hb := B.bytes
  have hr := B.returns
  have hts := atoms_spec (ws := wsL_nudgeOf) B.pre
  have hown : s.vm.findClass RL = some m.cls := findClass_of_methodNamed B.named
  have hlocks := B.notSynchronized
  have hS : va_S (zA N0) s.heap s.heap [] := va_S.rf
  have hl := lv_entry ([.ref h, .int w, .ref o]) (n := 4) (Nat.le_of_ble_eq_true rfl)
  rw [lg_entry_eq]
  generalize (lg_sl ([.ref h, .int w, .ref o]) ++ List.replicate (4 - (lg_sl ([.ref h, .int w, .ref o])).length) Slot.unset).toArray = ls at hl ⊢
  have hl : lv_has ls 4 [(0, .ref h), (1, .int w), (2, .ref o)] := hl
  refine lv_aload_n hx hb dL_nudgeOf_0 rfl (lv_at hl 2 rfl) ?_
  refine lv_iconst (v := 0) hx hb dL_nudgeOf_1 (by decide) ?_
  refine lv_aload_n hx hb dL_nudgeOf_2 rfl (lv_at hl 0 rfl) ?_
  refine lv_iload_n hx hb dL_nudgeOf_3 rfl (lv_at hl 1 rfl) ?_
  refine vp_callSi ((va_runV (As := [.int w]) (rest := [.int 0, .ref o]) ⟨hx, hb, hml, hown, hts⟩ (c_X0_nudgeOf_v l D N0 cA cL ((o, .inl (cL, 1, .inr (.inl g))) :: E) h d z c w hw) (cwV 1 hts gL_nudgeOf_X0_nudgeOf rfl rfl rfl (by decide +kernel) ⟨Nat.le_of_ble_eq_true rfl, Nat.le_of_ble_eq_true rfl⟩) ⟨zPre.blind, va_recv hK hP (ci := 0) (q0 := 0) rfl rfl, zPre.call hN hP hD hK hE hS⟩ rfl rfl hl.1 rfl (lv_room (Nat.le_of_ble_eq_true rfl)) dL_nudgeOf_4 ⟨Nat.zero_le _, Nat.zero_le _⟩).run) (fun r_4 h_4 => ?_)
  have h_4 : r_4 = (z.2.1 w.toNatClampNeg) := h_4
  subst h_4
  refine lv_i2l hx hb dL_nudgeOf_7 rfl ?_
  refine va_last hx hb hK hP hD hS 8 1 rfl rfl (vp_in_nI (n := 0) (by decide) (by decide)) dL_nudgeOf_8 (fun H locs hP hD hS => ?_)
  have hP : va_P D vwCl (wX h d cA z c ++ ((o, .inl (cL, 1, .inr (.inl (vp_updL g (0 : Int32).toNatClampNeg (z.2.1 w.toNatClampNeg).toInt64)))) :: E)) H := hP
  have hD : va_D (zA N0) (wX h d cA z c ++ ((o, .inl (cL, 1, .inr (.inl (vp_updL g (0 : Int32).toNatClampNeg (z.2.1 w.toNatClampNeg).toInt64)))) :: E)) := hD
  refine lv_goto (tgt := 15) hx hb dL_nudgeOf_9 (by decide) ?_
  refine lv_iconst (v := 0) hx hb dL_nudgeOf_15 (by decide) ?_
  exact W.iret (v := 0) hx hb hr (fun t ht hW => ⟨⟨_, (), rfl, rfl, ⟨by rw [ht]; exact hP, hD⟩⟩, hS.F ht⟩) hS.2.2 dL_nudgeOf_16

set_option maxHeartbeats 4000000 in
set_option maxRecDepth 100000 in
theorem c_L_nudgeOf_1 (l : Launch) (hst : l.stackTraces = false) (D : va_G) (N0 : Nat) (cA cL : ClassId) (E : va_W) (h : Nat) (d : Nat → Nat) (z : S7) (c : C5) (o : Nat) (g : Nat → Int64) (w : Int32) (hw : ¬ zw w) : Met l yL_nudgeOf wsL_nudgeOf ({ frames := 9, cells := 1, slots := 6, locals := 145 }) (va_Pc [.ref h, .int w, .ref o] (zPre D N0 cA cL (wX h d cA z c ++ ((o, .inl (cL, 1, .inr (.inl g))) :: E)))) (va_Qi (fun (rv : Int32) (_ : Unit) => rv = 1) (fun _ t => zPost D N0 (wX h d cA z c ++ ((o, .inl (cL, 1, .inr (.inl g))) :: E)) t) (zA N0)) 1 6 (zA N0) := by
  refine va_MetW (cc := cL_nudgeOf) (maxL := 4) (ret := (some .int)) (by decide) rfl ?_
  intro pr e s m ag below meth cd s₁ B hml hv
  obtain ⟨rfl, hN, hP, hD, hK, hE⟩ := hv
  have hx := B.exec
  have hb := B.bytes
  have hr := B.returns
  have hts := atoms_spec (ws := wsL_nudgeOf) B.pre
  have hown : s.vm.findClass RL = some m.cls := findClass_of_methodNamed B.named
  have hlocks := B.notSynchronized
  have htab := vx_table (x := yL_nudgeOf) B (hts (.codeWith yL_nudgeOf cL_nudgeOf 4 (some .int) [(0, 9, 12, 22)]) List.mem_cons_self)
  have hS : va_S (zA N0) s.heap s.heap [] := va_S.rf
  have hl := lv_entry ([.ref h, .int w, .ref o]) (n := 4) (Nat.le_of_ble_eq_true rfl)
  rw [lg_entry_eq]
  generalize (lg_sl ([.ref h, .int w, .ref o]) ++ List.replicate (4 - (lg_sl ([.ref h, .int w, .ref o])).length) Slot.unset).toArray = ls at hl ⊢
  have hl : lv_has ls 4 [(0, .ref h), (1, .int w), (2, .ref o)] := hl
  refine lv_aload_n hx hb dL_nudgeOf_0 rfl (lv_at hl 2 rfl) ?_
  refine lv_iconst (v := 0) hx hb dL_nudgeOf_1 (by decide) ?_
  refine lv_aload_n hx hb dL_nudgeOf_2 rfl (lv_at hl 0 rfl) ?_
  refine lv_iload_n hx hb dL_nudgeOf_3 rfl (lv_at hl 1 rfl) ?_
  refine vx_calli (vx_runV (As := [.int w]) (rest := [.int 0, .ref o]) ⟨hx, hb, hml, hown, hts⟩ (x_X0_nudgeOf_1 l hst N0 s.heap h w hw) (cwV 1 hts gL_nudgeOf_X0_nudgeOf rfl rfl rfl (by decide +kernel) ⟨Nat.le_of_ble_eq_true rfl, Nat.le_of_ble_eq_true rfl⟩) ⟨zPx.blind, va_recv hK hP (ci := 0) (q0 := 0) rfl rfl, zPx.call hN hE hS⟩ rfl rfl hl.1 rfl (lv_room (Nat.le_of_ble_eq_true rfl)) dL_nudgeOf_4 ⟨Nat.le_refl _, Nat.le_refl _⟩) hS (fun _ _ h9 => h9) (fun _ h9 => h9) (fun _ _ h9 => h9) (fun Ex ce q9 u t H locs ht hvm hp9 hB hz1 hk1 hS hce hcv hcl => ?_) (fun r u t H locs ht hvm hp9 hB hz1 hk1 hS => hp9.elim)
  obtain ⟨rfl, hB2, hB3⟩ := hB
  have hP : va_P D vwCl (wX h d cA z c ++ ((o, .inl (cL, 1, .inr (.inl g))) :: E)) H := hP.kept (fun k q hq => by rw [← ht]; exact hB3 q.1 ((hP k q hq).lt))
  refine vx_catch (name := xO) hown [] (⟨0, 9, 12, 22⟩ : ExceptionTableEntry) [] (htab.trans rfl) (fun z9 h9 => nomatch h9) (by decide) (by decide) (hts (.classLink RL 22 xO) (by decide +kernel)) (va_Nw.use rfl hE.2.2.2.2.2.2.2.2.2.2.1) hce hcv hcl ?_
  refine lv_astore_n (lv' := [(3, .ref q9), (0, .ref h), (1, .int w), (2, .ref o)]) hx hb dL_nudgeOf_12 rfl hl (by decide) rfl (fun ls hl => ?_)
  refine lv_iconst (v := 1) hx hb dL_nudgeOf_13 (by decide) ?_
  exact W.iret (v := 1) hx hb hr (fun t ht hW => ⟨⟨_, (), rfl, rfl, ⟨by rw [ht]; exact hP, hD⟩⟩, hS.F ht⟩) hS.2.2 dL_nudgeOf_14

set_option maxHeartbeats 4000000 in
set_option maxRecDepth 100000 in
theorem c_L_framesOf_v (l : Launch) (D : va_G) (N0 : Nat) (cA cL : ClassId) (E : va_W) (h : Nat) (d : Nat → Nat) (z : S7) (c : C5) (o : Nat) (g : Nat → Int64) (w : Int32) (hw : zw w) : Met l yL_framesOf wsL_framesOf ({ frames := 2, cells := 0, slots := 0, locals := 41 }) (va_Pc [.ref h, .int w, .ref o] (zPre D N0 cA cL (wX h d cA z c ++ ((o, .inl (cL, 1, .inr (.inl g))) :: E)))) (va_Qi (fun (rv : Int32) (_ : Unit) => rv = 0) (fun _ t => zPost D N0 (wX h d cA z c ++ ((o, .inl (cL, 1, .inr (.inl (vp_updL g (0 : Int32).toNatClampNeg (z.2.2.1 w.toNatClampNeg).toInt64)))) :: E)) t) (zA N0)) 0 0 (zA N0) := by
  refine va_MetW (cc := cL_framesOf) (maxL := 4) (ret := (some .int)) (by decide) rfl ?_
  intro pr e s m ag below meth cd s₁ B hml hv
  obtain ⟨rfl, hN, hP, hD, hK, hE⟩ := hv
  have hx := B.exec
  have hb := B.bytes
  have hr := B.returns
  have hts := atoms_spec (ws := wsL_framesOf) B.pre
  have hown : s.vm.findClass RL = some m.cls := findClass_of_methodNamed B.named
  have hlocks := B.notSynchronized
  have hS : va_S (zA N0) s.heap s.heap [] := va_S.rf
  have hl := lv_entry ([.ref h, .int w, .ref o]) (n := 4) (Nat.le_of_ble_eq_true rfl)
  rw [lg_entry_eq]
  generalize (lg_sl ([.ref h, .int w, .ref o]) ++ List.replicate (4 - (lg_sl ([.ref h, .int w, .ref o])).length) Slot.unset).toArray = ls at hl ⊢
  have hl : lv_has ls 4 [(0, .ref h), (1, .int w), (2, .ref o)] := hl
  refine lv_aload_n hx hb dL_framesOf_0 rfl (lv_at hl 2 rfl) ?_
  refine lv_iconst (v := 0) hx hb dL_framesOf_1 (by decide) ?_
  refine lv_aload_n hx hb dL_framesOf_2 rfl (lv_at hl 0 rfl) ?_
  refine lv_iload_n hx hb dL_framesOf_3 rfl (lv_at hl 1 rfl) ?_
  refine vp_callSi ((va_runV (As := [.int w]) (rest := [.int 0, .ref o]) ⟨hx, hb, hml, hown, hts⟩ (c_X0_framesOf_v l D N0 cA cL ((o, .inl (cL, 1, .inr (.inl g))) :: E) h d z c w hw) (cwV 1 hts gL_framesOf_X0_framesOf rfl rfl rfl (by decide +kernel) ⟨Nat.le_of_ble_eq_true rfl, Nat.le_of_ble_eq_true rfl⟩) ⟨zPre.blind, va_recv hK hP (ci := 0) (q0 := 0) rfl rfl, zPre.call hN hP hD hK hE hS⟩ rfl rfl hl.1 rfl (lv_room (Nat.le_of_ble_eq_true rfl)) dL_framesOf_4 ⟨Nat.zero_le _, Nat.zero_le _⟩).run) (fun r_4 h_4 => ?_)
  have h_4 : r_4 = (z.2.2.1 w.toNatClampNeg) := h_4
  subst h_4
  refine lv_i2l hx hb dL_framesOf_7 rfl ?_
  refine va_last hx hb hK hP hD hS 8 1 rfl rfl (vp_in_nI (n := 0) (by decide) (by decide)) dL_framesOf_8 (fun H locs hP hD hS => ?_)
  have hP : va_P D vwCl (wX h d cA z c ++ ((o, .inl (cL, 1, .inr (.inl (vp_updL g (0 : Int32).toNatClampNeg (z.2.2.1 w.toNatClampNeg).toInt64)))) :: E)) H := hP
  have hD : va_D (zA N0) (wX h d cA z c ++ ((o, .inl (cL, 1, .inr (.inl (vp_updL g (0 : Int32).toNatClampNeg (z.2.2.1 w.toNatClampNeg).toInt64)))) :: E)) := hD
  refine lv_goto (tgt := 15) hx hb dL_framesOf_9 (by decide) ?_
  refine lv_iconst (v := 0) hx hb dL_framesOf_15 (by decide) ?_
  exact W.iret (v := 0) hx hb hr (fun t ht hW => ⟨⟨_, (), rfl, rfl, ⟨by rw [ht]; exact hP, hD⟩⟩, hS.F ht⟩) hS.2.2 dL_framesOf_16

set_option maxHeartbeats 4000000 in
set_option maxRecDepth 100000 in
theorem c_L_framesOf_1 (l : Launch) (hst : l.stackTraces = false) (D : va_G) (N0 : Nat) (cA cL : ClassId) (E : va_W) (h : Nat) (d : Nat → Nat) (z : S7) (c : C5) (o : Nat) (g : Nat → Int64) (w : Int32) (hw : ¬ zw w) : Met l yL_framesOf wsL_framesOf ({ frames := 9, cells := 1, slots := 6, locals := 145 }) (va_Pc [.ref h, .int w, .ref o] (zPre D N0 cA cL (wX h d cA z c ++ ((o, .inl (cL, 1, .inr (.inl g))) :: E)))) (va_Qi (fun (rv : Int32) (_ : Unit) => rv = 1) (fun _ t => zPost D N0 (wX h d cA z c ++ ((o, .inl (cL, 1, .inr (.inl g))) :: E)) t) (zA N0)) 1 6 (zA N0) := by
  refine va_MetW (cc := cL_framesOf) (maxL := 4) (ret := (some .int)) (by decide) rfl ?_
  intro pr e s m ag below meth cd s₁ B hml hv
  obtain ⟨rfl, hN, hP, hD, hK, hE⟩ := hv
  have hx := B.exec
  have hb := B.bytes
  have hr := B.returns
  have hts := atoms_spec (ws := wsL_framesOf) B.pre
  have hown : s.vm.findClass RL = some m.cls := findClass_of_methodNamed B.named
  have hlocks := B.notSynchronized
  have htab := vx_table (x := yL_framesOf) B (hts (.codeWith yL_framesOf cL_framesOf 4 (some .int) [(0, 9, 12, 22)]) List.mem_cons_self)
  have hS : va_S (zA N0) s.heap s.heap [] := va_S.rf
  have hl := lv_entry ([.ref h, .int w, .ref o]) (n := 4) (Nat.le_of_ble_eq_true rfl)
  rw [lg_entry_eq]
  generalize (lg_sl ([.ref h, .int w, .ref o]) ++ List.replicate (4 - (lg_sl ([.ref h, .int w, .ref o])).length) Slot.unset).toArray = ls at hl ⊢
  have hl : lv_has ls 4 [(0, .ref h), (1, .int w), (2, .ref o)] := hl
  refine lv_aload_n hx hb dL_framesOf_0 rfl (lv_at hl 2 rfl) ?_
  refine lv_iconst (v := 0) hx hb dL_framesOf_1 (by decide) ?_
  refine lv_aload_n hx hb dL_framesOf_2 rfl (lv_at hl 0 rfl) ?_
  refine lv_iload_n hx hb dL_framesOf_3 rfl (lv_at hl 1 rfl) ?_
  refine vx_calli (vx_runV (As := [.int w]) (rest := [.int 0, .ref o]) ⟨hx, hb, hml, hown, hts⟩ (x_X0_framesOf_1 l hst N0 s.heap h w hw) (cwV 1 hts gL_framesOf_X0_framesOf rfl rfl rfl (by decide +kernel) ⟨Nat.le_of_ble_eq_true rfl, Nat.le_of_ble_eq_true rfl⟩) ⟨zPx.blind, va_recv hK hP (ci := 0) (q0 := 0) rfl rfl, zPx.call hN hE hS⟩ rfl rfl hl.1 rfl (lv_room (Nat.le_of_ble_eq_true rfl)) dL_framesOf_4 ⟨Nat.le_refl _, Nat.le_refl _⟩) hS (fun _ _ h9 => h9) (fun _ h9 => h9) (fun _ _ h9 => h9) (fun Ex ce q9 u t H locs ht hvm hp9 hB hz1 hk1 hS hce hcv hcl => ?_) (fun r u t H locs ht hvm hp9 hB hz1 hk1 hS => hp9.elim)
  obtain ⟨rfl, hB2, hB3⟩ := hB
  have hP : va_P D vwCl (wX h d cA z c ++ ((o, .inl (cL, 1, .inr (.inl g))) :: E)) H := hP.kept (fun k q hq => by rw [← ht]; exact hB3 q.1 ((hP k q hq).lt))
  refine vx_catch (name := xO) hown [] (⟨0, 9, 12, 22⟩ : ExceptionTableEntry) [] (htab.trans rfl) (fun z9 h9 => nomatch h9) (by decide) (by decide) (hts (.classLink RL 22 xO) (by decide +kernel)) (va_Nw.use rfl hE.2.2.2.2.2.2.2.2.2.2.1) hce hcv hcl ?_
  refine lv_astore_n (lv' := [(3, .ref q9), (0, .ref h), (1, .int w), (2, .ref o)]) hx hb dL_framesOf_12 rfl hl (by decide) rfl (fun ls hl => ?_)
  refine lv_iconst (v := 1) hx hb dL_framesOf_13 (by decide) ?_
  exact W.iret (v := 1) hx hb hr (fun t ht hW => ⟨⟨_, (), rfl, rfl, ⟨by rw [ht]; exact hP, hD⟩⟩, hS.F ht⟩) hS.2.2 dL_framesOf_14

set_option maxHeartbeats 4000000 in
set_option maxRecDepth 100000 in
theorem c_L_changesOf_v (l : Launch) (D : va_G) (N0 : Nat) (cA cL : ClassId) (E : va_W) (h : Nat) (d : Nat → Nat) (z : S7) (c : C5) (o : Nat) (g : Nat → Int64) (w : Int32) (hw : zw w) : Met l yL_changesOf wsL_changesOf ({ frames := 2, cells := 0, slots := 0, locals := 41 }) (va_Pc [.ref h, .int w, .ref o] (zPre D N0 cA cL (wX h d cA z c ++ ((o, .inl (cL, 1, .inr (.inl g))) :: E)))) (va_Qi (fun (rv : Int32) (_ : Unit) => rv = 0) (fun _ t => zPost D N0 (wX h d cA z c ++ ((o, .inl (cL, 1, .inr (.inl (vp_updL g (0 : Int32).toNatClampNeg (z.2.2.2.1 w.toNatClampNeg).toInt64)))) :: E)) t) (zA N0)) 0 0 (zA N0) := by
  refine va_MetW (cc := cL_changesOf) (maxL := 4) (ret := (some .int)) (by decide) rfl ?_
  intro pr e s m ag below meth cd s₁ B hml hv
  obtain ⟨rfl, hN, hP, hD, hK, hE⟩ := hv
  have hx := B.exec
  have hb := B.bytes
  have hr := B.returns
  have hts := atoms_spec (ws := wsL_changesOf) B.pre
  have hown : s.vm.findClass RL = some m.cls := findClass_of_methodNamed B.named
  have hlocks := B.notSynchronized
  have hS : va_S (zA N0) s.heap s.heap [] := va_S.rf
  have hl := lv_entry ([.ref h, .int w, .ref o]) (n := 4) (Nat.le_of_ble_eq_true rfl)
  rw [lg_entry_eq]
  generalize (lg_sl ([.ref h, .int w, .ref o]) ++ List.replicate (4 - (lg_sl ([.ref h, .int w, .ref o])).length) Slot.unset).toArray = ls at hl ⊢
  have hl : lv_has ls 4 [(0, .ref h), (1, .int w), (2, .ref o)] := hl
  refine lv_aload_n hx hb dL_changesOf_0 rfl (lv_at hl 2 rfl) ?_
  refine lv_iconst (v := 0) hx hb dL_changesOf_1 (by decide) ?_
  refine lv_aload_n hx hb dL_changesOf_2 rfl (lv_at hl 0 rfl) ?_
  refine lv_iload_n hx hb dL_changesOf_3 rfl (lv_at hl 1 rfl) ?_
  refine vp_callSi ((va_runV (As := [.int w]) (rest := [.int 0, .ref o]) ⟨hx, hb, hml, hown, hts⟩ (c_X0_changesOf_v l D N0 cA cL ((o, .inl (cL, 1, .inr (.inl g))) :: E) h d z c w hw) (cwV 1 hts gL_changesOf_X0_changesOf rfl rfl rfl (by decide +kernel) ⟨Nat.le_of_ble_eq_true rfl, Nat.le_of_ble_eq_true rfl⟩) ⟨zPre.blind, va_recv hK hP (ci := 0) (q0 := 0) rfl rfl, zPre.call hN hP hD hK hE hS⟩ rfl rfl hl.1 rfl (lv_room (Nat.le_of_ble_eq_true rfl)) dL_changesOf_4 ⟨Nat.zero_le _, Nat.zero_le _⟩).run) (fun r_4 h_4 => ?_)
  have h_4 : r_4 = (z.2.2.2.1 w.toNatClampNeg) := h_4
  subst h_4
  refine lv_i2l hx hb dL_changesOf_7 rfl ?_
  refine va_last hx hb hK hP hD hS 8 1 rfl rfl (vp_in_nI (n := 0) (by decide) (by decide)) dL_changesOf_8 (fun H locs hP hD hS => ?_)
  have hP : va_P D vwCl (wX h d cA z c ++ ((o, .inl (cL, 1, .inr (.inl (vp_updL g (0 : Int32).toNatClampNeg (z.2.2.2.1 w.toNatClampNeg).toInt64)))) :: E)) H := hP
  have hD : va_D (zA N0) (wX h d cA z c ++ ((o, .inl (cL, 1, .inr (.inl (vp_updL g (0 : Int32).toNatClampNeg (z.2.2.2.1 w.toNatClampNeg).toInt64)))) :: E)) := hD
  refine lv_goto (tgt := 15) hx hb dL_changesOf_9 (by decide) ?_
  refine lv_iconst (v := 0) hx hb dL_changesOf_15 (by decide) ?_
  exact W.iret (v := 0) hx hb hr (fun t ht hW => ⟨⟨_, (), rfl, rfl, ⟨by rw [ht]; exact hP, hD⟩⟩, hS.F ht⟩) hS.2.2 dL_changesOf_16

set_option maxHeartbeats 4000000 in
set_option maxRecDepth 100000 in
theorem c_L_changesOf_1 (l : Launch) (hst : l.stackTraces = false) (D : va_G) (N0 : Nat) (cA cL : ClassId) (E : va_W) (h : Nat) (d : Nat → Nat) (z : S7) (c : C5) (o : Nat) (g : Nat → Int64) (w : Int32) (hw : ¬ zw w) : Met l yL_changesOf wsL_changesOf ({ frames := 9, cells := 1, slots := 6, locals := 145 }) (va_Pc [.ref h, .int w, .ref o] (zPre D N0 cA cL (wX h d cA z c ++ ((o, .inl (cL, 1, .inr (.inl g))) :: E)))) (va_Qi (fun (rv : Int32) (_ : Unit) => rv = 1) (fun _ t => zPost D N0 (wX h d cA z c ++ ((o, .inl (cL, 1, .inr (.inl g))) :: E)) t) (zA N0)) 1 6 (zA N0) := by
  refine va_MetW (cc := cL_changesOf) (maxL := 4) (ret := (some .int)) (by decide) rfl ?_
  intro pr e s m ag below meth cd s₁ B hml hv
  obtain ⟨rfl, hN, hP, hD, hK, hE⟩ := hv
  have hx := B.exec
  have hb := B.bytes
  have hr := B.returns
  have hts := atoms_spec (ws := wsL_changesOf) B.pre
  have hown : s.vm.findClass RL = some m.cls := findClass_of_methodNamed B.named
  have hlocks := B.notSynchronized
  have htab := vx_table (x := yL_changesOf) B (hts (.codeWith yL_changesOf cL_changesOf 4 (some .int) [(0, 9, 12, 22)]) List.mem_cons_self)
  have hS : va_S (zA N0) s.heap s.heap [] := va_S.rf
  have hl := lv_entry ([.ref h, .int w, .ref o]) (n := 4) (Nat.le_of_ble_eq_true rfl)
  rw [lg_entry_eq]
  generalize (lg_sl ([.ref h, .int w, .ref o]) ++ List.replicate (4 - (lg_sl ([.ref h, .int w, .ref o])).length) Slot.unset).toArray = ls at hl ⊢
  have hl : lv_has ls 4 [(0, .ref h), (1, .int w), (2, .ref o)] := hl
  refine lv_aload_n hx hb dL_changesOf_0 rfl (lv_at hl 2 rfl) ?_
  refine lv_iconst (v := 0) hx hb dL_changesOf_1 (by decide) ?_
  refine lv_aload_n hx hb dL_changesOf_2 rfl (lv_at hl 0 rfl) ?_
  refine lv_iload_n hx hb dL_changesOf_3 rfl (lv_at hl 1 rfl) ?_
  refine vx_calli (vx_runV (As := [.int w]) (rest := [.int 0, .ref o]) ⟨hx, hb, hml, hown, hts⟩ (x_X0_changesOf_1 l hst N0 s.heap h w hw) (cwV 1 hts gL_changesOf_X0_changesOf rfl rfl rfl (by decide +kernel) ⟨Nat.le_of_ble_eq_true rfl, Nat.le_of_ble_eq_true rfl⟩) ⟨zPx.blind, va_recv hK hP (ci := 0) (q0 := 0) rfl rfl, zPx.call hN hE hS⟩ rfl rfl hl.1 rfl (lv_room (Nat.le_of_ble_eq_true rfl)) dL_changesOf_4 ⟨Nat.le_refl _, Nat.le_refl _⟩) hS (fun _ _ h9 => h9) (fun _ h9 => h9) (fun _ _ h9 => h9) (fun Ex ce q9 u t H locs ht hvm hp9 hB hz1 hk1 hS hce hcv hcl => ?_) (fun r u t H locs ht hvm hp9 hB hz1 hk1 hS => hp9.elim)
  obtain ⟨rfl, hB2, hB3⟩ := hB
  have hP : va_P D vwCl (wX h d cA z c ++ ((o, .inl (cL, 1, .inr (.inl g))) :: E)) H := hP.kept (fun k q hq => by rw [← ht]; exact hB3 q.1 ((hP k q hq).lt))
  refine vx_catch (name := xO) hown [] (⟨0, 9, 12, 22⟩ : ExceptionTableEntry) [] (htab.trans rfl) (fun z9 h9 => nomatch h9) (by decide) (by decide) (hts (.classLink RL 22 xO) (by decide +kernel)) (va_Nw.use rfl hE.2.2.2.2.2.2.2.2.2.2.1) hce hcv hcl ?_
  refine lv_astore_n (lv' := [(3, .ref q9), (0, .ref h), (1, .int w), (2, .ref o)]) hx hb dL_changesOf_12 rfl hl (by decide) rfl (fun ls hl => ?_)
  refine lv_iconst (v := 1) hx hb dL_changesOf_13 (by decide) ?_
  exact W.iret (v := 1) hx hb hr (fun t ht hW => ⟨⟨_, (), rfl, rfl, ⟨by rw [ht]; exact hP, hD⟩⟩, hS.F ht⟩) hS.2.2 dL_changesOf_14

set_option maxHeartbeats 4000000 in
set_option maxRecDepth 100000 in
theorem c_L_leapsOf_v (l : Launch) (D : va_G) (N0 : Nat) (cA cL : ClassId) (E : va_W) (h : Nat) (d : Nat → Nat) (z : S7) (c : C5) (o : Nat) (g : Nat → Int64) (w : Int32) (hw : zw w) : Met l yL_leapsOf wsL_leapsOf ({ frames := 2, cells := 0, slots := 0, locals := 41 }) (va_Pc [.ref h, .int w, .ref o] (zPre D N0 cA cL (wX h d cA z c ++ ((o, .inl (cL, 1, .inr (.inl g))) :: E)))) (va_Qi (fun (rv : Int32) (_ : Unit) => rv = 0) (fun _ t => zPost D N0 (wX h d cA z c ++ ((o, .inl (cL, 1, .inr (.inl (vp_updL g (0 : Int32).toNatClampNeg (z.2.2.2.2.1 w.toNatClampNeg).toInt64)))) :: E)) t) (zA N0)) 0 0 (zA N0) := by
  refine va_MetW (cc := cL_leapsOf) (maxL := 4) (ret := (some .int)) (by decide) rfl ?_
  intro pr e s m ag below meth cd s₁ B hml hv
  obtain ⟨rfl, hN, hP, hD, hK, hE⟩ := hv
  have hx := B.exec
  have hb := B.bytes
  have hr := B.returns
  have hts := atoms_spec (ws := wsL_leapsOf) B.pre
  have hown : s.vm.findClass RL = some m.cls := findClass_of_methodNamed B.named
  have hlocks := B.notSynchronized
  have hS : va_S (zA N0) s.heap s.heap [] := va_S.rf
  have hl := lv_entry ([.ref h, .int w, .ref o]) (n := 4) (Nat.le_of_ble_eq_true rfl)
  rw [lg_entry_eq]
  generalize (lg_sl ([.ref h, .int w, .ref o]) ++ List.replicate (4 - (lg_sl ([.ref h, .int w, .ref o])).length) Slot.unset).toArray = ls at hl ⊢
  have hl : lv_has ls 4 [(0, .ref h), (1, .int w), (2, .ref o)] := hl
  refine lv_aload_n hx hb dL_leapsOf_0 rfl (lv_at hl 2 rfl) ?_
  refine lv_iconst (v := 0) hx hb dL_leapsOf_1 (by decide) ?_
  refine lv_aload_n hx hb dL_leapsOf_2 rfl (lv_at hl 0 rfl) ?_
  refine lv_iload_n hx hb dL_leapsOf_3 rfl (lv_at hl 1 rfl) ?_
  refine vp_callSi ((va_runV (As := [.int w]) (rest := [.int 0, .ref o]) ⟨hx, hb, hml, hown, hts⟩ (c_X0_leapsOf_v l D N0 cA cL ((o, .inl (cL, 1, .inr (.inl g))) :: E) h d z c w hw) (cwV 1 hts gL_leapsOf_X0_leapsOf rfl rfl rfl (by decide +kernel) ⟨Nat.le_of_ble_eq_true rfl, Nat.le_of_ble_eq_true rfl⟩) ⟨zPre.blind, va_recv hK hP (ci := 0) (q0 := 0) rfl rfl, zPre.call hN hP hD hK hE hS⟩ rfl rfl hl.1 rfl (lv_room (Nat.le_of_ble_eq_true rfl)) dL_leapsOf_4 ⟨Nat.zero_le _, Nat.zero_le _⟩).run) (fun r_4 h_4 => ?_)
  have h_4 : r_4 = (z.2.2.2.2.1 w.toNatClampNeg) := h_4
  subst h_4
  refine lv_i2l hx hb dL_leapsOf_7 rfl ?_
  refine va_last hx hb hK hP hD hS 8 1 rfl rfl (vp_in_nI (n := 0) (by decide) (by decide)) dL_leapsOf_8 (fun H locs hP hD hS => ?_)
  have hP : va_P D vwCl (wX h d cA z c ++ ((o, .inl (cL, 1, .inr (.inl (vp_updL g (0 : Int32).toNatClampNeg (z.2.2.2.2.1 w.toNatClampNeg).toInt64)))) :: E)) H := hP
  have hD : va_D (zA N0) (wX h d cA z c ++ ((o, .inl (cL, 1, .inr (.inl (vp_updL g (0 : Int32).toNatClampNeg (z.2.2.2.2.1 w.toNatClampNeg).toInt64)))) :: E)) := hD
  refine lv_goto (tgt := 15) hx hb dL_leapsOf_9 (by decide) ?_
  refine lv_iconst (v := 0) hx hb dL_leapsOf_15 (by decide) ?_
  exact W.iret (v := 0) hx hb hr (fun t ht hW => ⟨⟨_, (), rfl, rfl, ⟨by rw [ht]; exact hP, hD⟩⟩, hS.F ht⟩) hS.2.2 dL_leapsOf_16

set_option maxHeartbeats 4000000 in
set_option maxRecDepth 100000 in
theorem c_L_leapsOf_1 (l : Launch) (hst : l.stackTraces = false) (D : va_G) (N0 : Nat) (cA cL : ClassId) (E : va_W) (h : Nat) (d : Nat → Nat) (z : S7) (c : C5) (o : Nat) (g : Nat → Int64) (w : Int32) (hw : ¬ zw w) : Met l yL_leapsOf wsL_leapsOf ({ frames := 9, cells := 1, slots := 6, locals := 145 }) (va_Pc [.ref h, .int w, .ref o] (zPre D N0 cA cL (wX h d cA z c ++ ((o, .inl (cL, 1, .inr (.inl g))) :: E)))) (va_Qi (fun (rv : Int32) (_ : Unit) => rv = 1) (fun _ t => zPost D N0 (wX h d cA z c ++ ((o, .inl (cL, 1, .inr (.inl g))) :: E)) t) (zA N0)) 1 6 (zA N0) := by
  refine va_MetW (cc := cL_leapsOf) (maxL := 4) (ret := (some .int)) (by decide) rfl ?_
  intro pr e s m ag below meth cd s₁ B hml hv
  obtain ⟨rfl, hN, hP, hD, hK, hE⟩ := hv
  have hx := B.exec
  have hb := B.bytes
  have hr := B.returns
  have hts := atoms_spec (ws := wsL_leapsOf) B.pre
  have hown : s.vm.findClass RL = some m.cls := findClass_of_methodNamed B.named
  have hlocks := B.notSynchronized
  have htab := vx_table (x := yL_leapsOf) B (hts (.codeWith yL_leapsOf cL_leapsOf 4 (some .int) [(0, 9, 12, 22)]) List.mem_cons_self)
  have hS : va_S (zA N0) s.heap s.heap [] := va_S.rf
  have hl := lv_entry ([.ref h, .int w, .ref o]) (n := 4) (Nat.le_of_ble_eq_true rfl)
  rw [lg_entry_eq]
  generalize (lg_sl ([.ref h, .int w, .ref o]) ++ List.replicate (4 - (lg_sl ([.ref h, .int w, .ref o])).length) Slot.unset).toArray = ls at hl ⊢
  have hl : lv_has ls 4 [(0, .ref h), (1, .int w), (2, .ref o)] := hl
  refine lv_aload_n hx hb dL_leapsOf_0 rfl (lv_at hl 2 rfl) ?_
  refine lv_iconst (v := 0) hx hb dL_leapsOf_1 (by decide) ?_
  refine lv_aload_n hx hb dL_leapsOf_2 rfl (lv_at hl 0 rfl) ?_
  refine lv_iload_n hx hb dL_leapsOf_3 rfl (lv_at hl 1 rfl) ?_
  refine vx_calli (vx_runV (As := [.int w]) (rest := [.int 0, .ref o]) ⟨hx, hb, hml, hown, hts⟩ (x_X0_leapsOf_1 l hst N0 s.heap h w hw) (cwV 1 hts gL_leapsOf_X0_leapsOf rfl rfl rfl (by decide +kernel) ⟨Nat.le_of_ble_eq_true rfl, Nat.le_of_ble_eq_true rfl⟩) ⟨zPx.blind, va_recv hK hP (ci := 0) (q0 := 0) rfl rfl, zPx.call hN hE hS⟩ rfl rfl hl.1 rfl (lv_room (Nat.le_of_ble_eq_true rfl)) dL_leapsOf_4 ⟨Nat.le_refl _, Nat.le_refl _⟩) hS (fun _ _ h9 => h9) (fun _ h9 => h9) (fun _ _ h9 => h9) (fun Ex ce q9 u t H locs ht hvm hp9 hB hz1 hk1 hS hce hcv hcl => ?_) (fun r u t H locs ht hvm hp9 hB hz1 hk1 hS => hp9.elim)
  obtain ⟨rfl, hB2, hB3⟩ := hB
  have hP : va_P D vwCl (wX h d cA z c ++ ((o, .inl (cL, 1, .inr (.inl g))) :: E)) H := hP.kept (fun k q hq => by rw [← ht]; exact hB3 q.1 ((hP k q hq).lt))
  refine vx_catch (name := xO) hown [] (⟨0, 9, 12, 22⟩ : ExceptionTableEntry) [] (htab.trans rfl) (fun z9 h9 => nomatch h9) (by decide) (by decide) (hts (.classLink RL 22 xO) (by decide +kernel)) (va_Nw.use rfl hE.2.2.2.2.2.2.2.2.2.2.1) hce hcv hcl ?_
  refine lv_astore_n (lv' := [(3, .ref q9), (0, .ref h), (1, .int w), (2, .ref o)]) hx hb dL_leapsOf_12 rfl hl (by decide) rfl (fun ls hl => ?_)
  refine lv_iconst (v := 1) hx hb dL_leapsOf_13 (by decide) ?_
  exact W.iret (v := 1) hx hb hr (fun t ht hW => ⟨⟨_, (), rfl, rfl, ⟨by rw [ht]; exact hP, hD⟩⟩, hS.F ht⟩) hS.2.2 dL_leapsOf_14

set_option maxHeartbeats 4000000 in
set_option maxRecDepth 100000 in
theorem c_L_cleanOf_v (l : Launch) (D : va_G) (N0 : Nat) (cA cL : ClassId) (E : va_W) (h : Nat) (d : Nat → Nat) (z : S7) (c : C5) (o : Nat) (g : Nat → Int64) (w : Int32) (hw : zw w) : Met l yL_cleanOf wsL_cleanOf ({ frames := 2, cells := 0, slots := 0, locals := 41 }) (va_Pc [.ref h, .int w, .ref o] (zPre D N0 cA cL (wX h d cA z c ++ ((o, .inl (cL, 1, .inr (.inl g))) :: E)))) (va_Qi (fun (rv : Int32) (_ : Unit) => rv = 0) (fun _ t => zPost D N0 (wX h d cA z c ++ ((o, .inl (cL, 1, .inr (.inl (vp_updL g (0 : Int32).toNatClampNeg (z.2.2.2.2.2.1 w.toNatClampNeg).toInt64)))) :: E)) t) (zA N0)) 0 0 (zA N0) := by
  refine va_MetW (cc := cL_cleanOf) (maxL := 4) (ret := (some .int)) (by decide) rfl ?_
  intro pr e s m ag below meth cd s₁ B hml hv
  obtain ⟨rfl, hN, hP, hD, hK, hE⟩ := hv
  have hx := B.exec
  have hb := B.bytes
  have hr := B.returns
  have hts := atoms_spec (ws := wsL_cleanOf) B.pre
  have hown : s.vm.findClass RL = some m.cls := findClass_of_methodNamed B.named
  have hlocks := B.notSynchronized
  have hS : va_S (zA N0) s.heap s.heap [] := va_S.rf
  have hl := lv_entry ([.ref h, .int w, .ref o]) (n := 4) (Nat.le_of_ble_eq_true rfl)
  rw [lg_entry_eq]
  generalize (lg_sl ([.ref h, .int w, .ref o]) ++ List.replicate (4 - (lg_sl ([.ref h, .int w, .ref o])).length) Slot.unset).toArray = ls at hl ⊢
  have hl : lv_has ls 4 [(0, .ref h), (1, .int w), (2, .ref o)] := hl
  refine lv_aload_n hx hb dL_cleanOf_0 rfl (lv_at hl 2 rfl) ?_
  refine lv_iconst (v := 0) hx hb dL_cleanOf_1 (by decide) ?_
  refine lv_aload_n hx hb dL_cleanOf_2 rfl (lv_at hl 0 rfl) ?_
  refine lv_iload_n hx hb dL_cleanOf_3 rfl (lv_at hl 1 rfl) ?_
  refine vp_callSi ((va_runV (As := [.int w]) (rest := [.int 0, .ref o]) ⟨hx, hb, hml, hown, hts⟩ (c_X0_cleanOf_v l D N0 cA cL ((o, .inl (cL, 1, .inr (.inl g))) :: E) h d z c w hw) (cwV 1 hts gL_cleanOf_X0_cleanOf rfl rfl rfl (by decide +kernel) ⟨Nat.le_of_ble_eq_true rfl, Nat.le_of_ble_eq_true rfl⟩) ⟨zPre.blind, va_recv hK hP (ci := 0) (q0 := 0) rfl rfl, zPre.call hN hP hD hK hE hS⟩ rfl rfl hl.1 rfl (lv_room (Nat.le_of_ble_eq_true rfl)) dL_cleanOf_4 ⟨Nat.zero_le _, Nat.zero_le _⟩).run) (fun r_4 h_4 => ?_)
  have h_4 : r_4 = (z.2.2.2.2.2.1 w.toNatClampNeg) := h_4
  subst h_4
  refine lv_i2l hx hb dL_cleanOf_7 rfl ?_
  refine va_last hx hb hK hP hD hS 8 1 rfl rfl (vp_in_nI (n := 0) (by decide) (by decide)) dL_cleanOf_8 (fun H locs hP hD hS => ?_)
  have hP : va_P D vwCl (wX h d cA z c ++ ((o, .inl (cL, 1, .inr (.inl (vp_updL g (0 : Int32).toNatClampNeg (z.2.2.2.2.2.1 w.toNatClampNeg).toInt64)))) :: E)) H := hP
  have hD : va_D (zA N0) (wX h d cA z c ++ ((o, .inl (cL, 1, .inr (.inl (vp_updL g (0 : Int32).toNatClampNeg (z.2.2.2.2.2.1 w.toNatClampNeg).toInt64)))) :: E)) := hD
  refine lv_goto (tgt := 15) hx hb dL_cleanOf_9 (by decide) ?_
  refine lv_iconst (v := 0) hx hb dL_cleanOf_15 (by decide) ?_
  exact W.iret (v := 0) hx hb hr (fun t ht hW => ⟨⟨_, (), rfl, rfl, ⟨by rw [ht]; exact hP, hD⟩⟩, hS.F ht⟩) hS.2.2 dL_cleanOf_16

set_option maxHeartbeats 4000000 in
set_option maxRecDepth 100000 in
theorem c_L_cleanOf_1 (l : Launch) (hst : l.stackTraces = false) (D : va_G) (N0 : Nat) (cA cL : ClassId) (E : va_W) (h : Nat) (d : Nat → Nat) (z : S7) (c : C5) (o : Nat) (g : Nat → Int64) (w : Int32) (hw : ¬ zw w) : Met l yL_cleanOf wsL_cleanOf ({ frames := 9, cells := 1, slots := 6, locals := 145 }) (va_Pc [.ref h, .int w, .ref o] (zPre D N0 cA cL (wX h d cA z c ++ ((o, .inl (cL, 1, .inr (.inl g))) :: E)))) (va_Qi (fun (rv : Int32) (_ : Unit) => rv = 1) (fun _ t => zPost D N0 (wX h d cA z c ++ ((o, .inl (cL, 1, .inr (.inl g))) :: E)) t) (zA N0)) 1 6 (zA N0) := by
  refine va_MetW (cc := cL_cleanOf) (maxL := 4) (ret := (some .int)) (by decide) rfl ?_
  intro pr e s m ag below meth cd s₁ B hml hv
  obtain ⟨rfl, hN, hP, hD, hK, hE⟩ := hv
  have hx := B.exec
  have hb := B.bytes
  have hr := B.returns
  have hts := atoms_spec (ws := wsL_cleanOf) B.pre
  have hown : s.vm.findClass RL = some m.cls := findClass_of_methodNamed B.named
  have hlocks := B.notSynchronized
  have htab := vx_table (x := yL_cleanOf) B (hts (.codeWith yL_cleanOf cL_cleanOf 4 (some .int) [(0, 9, 12, 22)]) List.mem_cons_self)
  have hS : va_S (zA N0) s.heap s.heap [] := va_S.rf
  have hl := lv_entry ([.ref h, .int w, .ref o]) (n := 4) (Nat.le_of_ble_eq_true rfl)
  rw [lg_entry_eq]
  generalize (lg_sl ([.ref h, .int w, .ref o]) ++ List.replicate (4 - (lg_sl ([.ref h, .int w, .ref o])).length) Slot.unset).toArray = ls at hl ⊢
  have hl : lv_has ls 4 [(0, .ref h), (1, .int w), (2, .ref o)] := hl
  refine lv_aload_n hx hb dL_cleanOf_0 rfl (lv_at hl 2 rfl) ?_
  refine lv_iconst (v := 0) hx hb dL_cleanOf_1 (by decide) ?_
  refine lv_aload_n hx hb dL_cleanOf_2 rfl (lv_at hl 0 rfl) ?_
  refine lv_iload_n hx hb dL_cleanOf_3 rfl (lv_at hl 1 rfl) ?_
  refine vx_calli (vx_runV (As := [.int w]) (rest := [.int 0, .ref o]) ⟨hx, hb, hml, hown, hts⟩ (x_X0_cleanOf_1 l hst N0 s.heap h w hw) (cwV 1 hts gL_cleanOf_X0_cleanOf rfl rfl rfl (by decide +kernel) ⟨Nat.le_of_ble_eq_true rfl, Nat.le_of_ble_eq_true rfl⟩) ⟨zPx.blind, va_recv hK hP (ci := 0) (q0 := 0) rfl rfl, zPx.call hN hE hS⟩ rfl rfl hl.1 rfl (lv_room (Nat.le_of_ble_eq_true rfl)) dL_cleanOf_4 ⟨Nat.le_refl _, Nat.le_refl _⟩) hS (fun _ _ h9 => h9) (fun _ h9 => h9) (fun _ _ h9 => h9) (fun Ex ce q9 u t H locs ht hvm hp9 hB hz1 hk1 hS hce hcv hcl => ?_) (fun r u t H locs ht hvm hp9 hB hz1 hk1 hS => hp9.elim)
  obtain ⟨rfl, hB2, hB3⟩ := hB
  have hP : va_P D vwCl (wX h d cA z c ++ ((o, .inl (cL, 1, .inr (.inl g))) :: E)) H := hP.kept (fun k q hq => by rw [← ht]; exact hB3 q.1 ((hP k q hq).lt))
  refine vx_catch (name := xO) hown [] (⟨0, 9, 12, 22⟩ : ExceptionTableEntry) [] (htab.trans rfl) (fun z9 h9 => nomatch h9) (by decide) (by decide) (hts (.classLink RL 22 xO) (by decide +kernel)) (va_Nw.use rfl hE.2.2.2.2.2.2.2.2.2.2.1) hce hcv hcl ?_
  refine lv_astore_n (lv' := [(3, .ref q9), (0, .ref h), (1, .int w), (2, .ref o)]) hx hb dL_cleanOf_12 rfl hl (by decide) rfl (fun ls hl => ?_)
  refine lv_iconst (v := 1) hx hb dL_cleanOf_13 (by decide) ?_
  exact W.iret (v := 1) hx hb hr (fun t ht hW => ⟨⟨_, (), rfl, rfl, ⟨by rw [ht]; exact hP, hD⟩⟩, hS.F ht⟩) hS.2.2 dL_cleanOf_14

set_option maxHeartbeats 4000000 in
set_option maxRecDepth 100000 in
theorem c_L_nearest_v (l : Launch) (D : va_G) (N0 : Nat) (cA cL : ClassId) (E : va_W) (h : Nat) (d : Nat → Nat) (z : S7) (c : C5) (o : Nat) (g : Nat → Int64) (p : Int32) (hc : okC c) (hp : zp p) : Met l yL_nearest wsL_nearest ({ frames := 6, cells := 0, slots := 0, locals := 134 }) (va_Pc [.ref h, .int p, .ref o] (zPre D N0 cA cL (wX h d cA z c ++ ((o, .inl (cL, 1, .inr (.inl g))) :: E)))) (va_Qi (fun (rv : Int32) (_ : Unit) => rv = 0) (fun _ t => zPost D N0 (wX h d cA z c ++ ((o, .inl (cL, 1, .inr (.inl (vp_updL g (0 : Int32).toNatClampNeg (zNear c p).toInt64)))) :: E)) t) (zA N0)) 0 0 (zA N0) := by
  refine va_MetW (cc := cL_nearest) (maxL := 4) (ret := (some .int)) (by decide) rfl ?_
  intro pr e s m ag below meth cd s₁ B hml hv
  obtain ⟨rfl, hN, hP, hD, hK, hE⟩ := hv
  have hx := B.exec
  have hb := B.bytes
  have hr := B.returns
  have hts := atoms_spec (ws := wsL_nearest) B.pre
  have hown : s.vm.findClass RL = some m.cls := findClass_of_methodNamed B.named
  have hlocks := B.notSynchronized
  have hS : va_S (zA N0) s.heap s.heap [] := va_S.rf
  have hl := lv_entry ([.ref h, .int p, .ref o]) (n := 4) (Nat.le_of_ble_eq_true rfl)
  rw [lg_entry_eq]
  generalize (lg_sl ([.ref h, .int p, .ref o]) ++ List.replicate (4 - (lg_sl ([.ref h, .int p, .ref o])).length) Slot.unset).toArray = ls at hl ⊢
  have hl : lv_has ls 4 [(0, .ref h), (1, .int p), (2, .ref o)] := hl
  refine lv_aload_n hx hb dL_nearest_0 rfl (lv_at hl 2 rfl) ?_
  refine lv_iconst (v := 0) hx hb dL_nearest_1 (by decide) ?_
  refine lv_aload_n hx hb dL_nearest_2 rfl (lv_at hl 0 rfl) ?_
  refine lv_iload_n hx hb dL_nearest_3 rfl (lv_at hl 1 rfl) ?_
  refine vp_callSi ((va_runV (As := [.int p]) (rest := [.int 0, .ref o]) ⟨hx, hb, hml, hown, hts⟩ (c_X0_nearest_v l D N0 cA cL ((o, .inl (cL, 1, .inr (.inl g))) :: E) h d z c p hc hp) (cwV 1 hts gL_nearest_X0_nearest rfl rfl rfl (by decide +kernel) ⟨Nat.le_of_ble_eq_true rfl, Nat.le_of_ble_eq_true rfl⟩) ⟨zPre.blind, va_recv hK hP (ci := 0) (q0 := 0) rfl rfl, zPre.call hN hP hD hK hE hS⟩ rfl rfl hl.1 rfl (lv_room (Nat.le_of_ble_eq_true rfl)) dL_nearest_4 ⟨Nat.zero_le _, Nat.zero_le _⟩).run) (fun r_4 h_4 => ?_)
  have h_4 : r_4 = (zNear c p) := h_4
  subst h_4
  refine lv_i2l hx hb dL_nearest_7 rfl ?_
  refine va_last hx hb hK hP hD hS 8 1 rfl rfl (vp_in_nI (n := 0) (by decide) (by decide)) dL_nearest_8 (fun H locs hP hD hS => ?_)
  have hP : va_P D vwCl (wX h d cA z c ++ ((o, .inl (cL, 1, .inr (.inl (vp_updL g (0 : Int32).toNatClampNeg (zNear c p).toInt64)))) :: E)) H := hP
  have hD : va_D (zA N0) (wX h d cA z c ++ ((o, .inl (cL, 1, .inr (.inl (vp_updL g (0 : Int32).toNatClampNeg (zNear c p).toInt64)))) :: E)) := hD
  refine lv_goto (tgt := 15) hx hb dL_nearest_9 (by decide) ?_
  refine lv_iconst (v := 0) hx hb dL_nearest_15 (by decide) ?_
  exact W.iret (v := 0) hx hb hr (fun t ht hW => ⟨⟨_, (), rfl, rfl, ⟨by rw [ht]; exact hP, hD⟩⟩, hS.F ht⟩) hS.2.2 dL_nearest_16

set_option maxHeartbeats 4000000 in
set_option maxRecDepth 100000 in
theorem c_L_nearest_1 (l : Launch) (hst : l.stackTraces = false) (D : va_G) (N0 : Nat) (cA cL : ClassId) (E : va_W) (h : Nat) (d : Nat → Nat) (z : S7) (c : C5) (o : Nat) (g : Nat → Int64) (p : Int32) (hp : ¬ zp p) : Met l yL_nearest wsL_nearest ({ frames := 9, cells := 1, slots := 6, locals := 145 }) (va_Pc [.ref h, .int p, .ref o] (zPre D N0 cA cL (wX h d cA z c ++ ((o, .inl (cL, 1, .inr (.inl g))) :: E)))) (va_Qi (fun (rv : Int32) (_ : Unit) => rv = 1) (fun _ t => zPost D N0 (wX h d cA z c ++ ((o, .inl (cL, 1, .inr (.inl g))) :: E)) t) (zA N0)) 1 6 (zA N0) := by
  refine va_MetW (cc := cL_nearest) (maxL := 4) (ret := (some .int)) (by decide) rfl ?_
  intro pr e s m ag below meth cd s₁ B hml hv
  obtain ⟨rfl, hN, hP, hD, hK, hE⟩ := hv
  have hx := B.exec
  have hb := B.bytes
  have hr := B.returns
  have hts := atoms_spec (ws := wsL_nearest) B.pre
  have hown : s.vm.findClass RL = some m.cls := findClass_of_methodNamed B.named
  have hlocks := B.notSynchronized
  have htab := vx_table (x := yL_nearest) B (hts (.codeWith yL_nearest cL_nearest 4 (some .int) [(0, 9, 12, 13)]) List.mem_cons_self)
  have hS : va_S (zA N0) s.heap s.heap [] := va_S.rf
  have hl := lv_entry ([.ref h, .int p, .ref o]) (n := 4) (Nat.le_of_ble_eq_true rfl)
  rw [lg_entry_eq]
  generalize (lg_sl ([.ref h, .int p, .ref o]) ++ List.replicate (4 - (lg_sl ([.ref h, .int p, .ref o])).length) Slot.unset).toArray = ls at hl ⊢
  have hl : lv_has ls 4 [(0, .ref h), (1, .int p), (2, .ref o)] := hl
  refine lv_aload_n hx hb dL_nearest_0 rfl (lv_at hl 2 rfl) ?_
  refine lv_iconst (v := 0) hx hb dL_nearest_1 (by decide) ?_
  refine lv_aload_n hx hb dL_nearest_2 rfl (lv_at hl 0 rfl) ?_
  refine lv_iload_n hx hb dL_nearest_3 rfl (lv_at hl 1 rfl) ?_
  refine vx_calli (vx_runV (As := [.int p]) (rest := [.int 0, .ref o]) ⟨hx, hb, hml, hown, hts⟩ (x_X0_nearest_1 l hst N0 s.heap h p hp) (cwV 1 hts gL_nearest_X0_nearest rfl rfl rfl (by decide +kernel) ⟨Nat.le_of_ble_eq_true rfl, Nat.le_of_ble_eq_true rfl⟩) ⟨zPx.blind, va_recv hK hP (ci := 0) (q0 := 0) rfl rfl, zPx.call hN hE hS⟩ rfl rfl hl.1 rfl (lv_room (Nat.le_of_ble_eq_true rfl)) dL_nearest_4 ⟨Nat.le_refl _, Nat.le_refl _⟩) hS (fun _ _ h9 => h9) (fun _ h9 => h9) (fun _ _ h9 => h9) (fun Ex ce q9 u t H locs ht hvm hp9 hB hz1 hk1 hS hce hcv hcl => ?_) (fun r u t H locs ht hvm hp9 hB hz1 hk1 hS => hp9.elim)
  obtain ⟨rfl, hB2, hB3⟩ := hB
  have hP : va_P D vwCl (wX h d cA z c ++ ((o, .inl (cL, 1, .inr (.inl g))) :: E)) H := hP.kept (fun k q hq => by rw [← ht]; exact hB3 q.1 ((hP k q hq).lt))
  refine vx_catch (name := xI) hown [] (⟨0, 9, 12, 13⟩ : ExceptionTableEntry) [] (htab.trans rfl) (fun z9 h9 => nomatch h9) (by decide) (by decide) (hts (.classLink RL 13 xI) (by decide +kernel)) (va_Nw.use rfl hE.2.2.2.2.2.2.2.2.2.1) hce hcv hcl ?_
  refine lv_astore_n (lv' := [(3, .ref q9), (0, .ref h), (1, .int p), (2, .ref o)]) hx hb dL_nearest_12 rfl hl (by decide) rfl (fun ls hl => ?_)
  refine lv_iconst (v := 1) hx hb dL_nearest_13 (by decide) ?_
  exact W.iret (v := 1) hx hb hr (fun t ht hW => ⟨⟨_, (), rfl, rfl, ⟨by rw [ht]; exact hP, hD⟩⟩, hS.F ht⟩) hS.2.2 dL_nearest_14

set_option maxHeartbeats 4000000 in
set_option maxRecDepth 100000 in
theorem c_L_stepOf_v (l : Launch) (D : va_G) (N0 : Nat) (cA cL : ClassId) (E : va_W) (h : Nat) (d : Nat → Nat) (z : S7) (c : C5) (o : Nat) (g : Nat → Int64) (p : Int32) (hc : okC c) (hp : zp p) : Met l yL_stepOf wsL_stepOf ({ frames := 4, cells := 0, slots := 0, locals := 89 }) (va_Pc [.ref h, .int p, .ref o] (zPre D N0 cA cL (wX h d cA z c ++ ((o, .inl (cL, 1, .inr (.inl g))) :: E)))) (va_Qi (fun (rv : Int32) (_ : Unit) => rv = 0) (fun _ t => zPost D N0 (wX h d cA z c ++ ((o, .inl (cL, 1, .inr (.inl (vp_updL g (0 : Int32).toNatClampNeg (zStep c p).toInt64)))) :: E)) t) (zA N0)) 0 0 (zA N0) := by
  refine va_MetW (cc := cL_stepOf) (maxL := 4) (ret := (some .int)) (by decide) rfl ?_
  intro pr e s m ag below meth cd s₁ B hml hv
  obtain ⟨rfl, hN, hP, hD, hK, hE⟩ := hv
  have hx := B.exec
  have hb := B.bytes
  have hr := B.returns
  have hts := atoms_spec (ws := wsL_stepOf) B.pre
  have hown : s.vm.findClass RL = some m.cls := findClass_of_methodNamed B.named
  have hlocks := B.notSynchronized
  have hS : va_S (zA N0) s.heap s.heap [] := va_S.rf
  have hl := lv_entry ([.ref h, .int p, .ref o]) (n := 4) (Nat.le_of_ble_eq_true rfl)
  rw [lg_entry_eq]
  generalize (lg_sl ([.ref h, .int p, .ref o]) ++ List.replicate (4 - (lg_sl ([.ref h, .int p, .ref o])).length) Slot.unset).toArray = ls at hl ⊢
  have hl : lv_has ls 4 [(0, .ref h), (1, .int p), (2, .ref o)] := hl
  refine lv_aload_n hx hb dL_stepOf_0 rfl (lv_at hl 2 rfl) ?_
  refine lv_iconst (v := 0) hx hb dL_stepOf_1 (by decide) ?_
  refine lv_aload_n hx hb dL_stepOf_2 rfl (lv_at hl 0 rfl) ?_
  refine lv_iload_n hx hb dL_stepOf_3 rfl (lv_at hl 1 rfl) ?_
  refine vp_callSi ((va_runV (As := [.int p]) (rest := [.int 0, .ref o]) ⟨hx, hb, hml, hown, hts⟩ (c_X0_stepOf_v l D N0 cA cL ((o, .inl (cL, 1, .inr (.inl g))) :: E) h d z c p hc hp) (cwV 1 hts gL_stepOf_X0_stepOf rfl rfl rfl (by decide +kernel) ⟨Nat.le_of_ble_eq_true rfl, Nat.le_of_ble_eq_true rfl⟩) ⟨zPre.blind, va_recv hK hP (ci := 0) (q0 := 0) rfl rfl, zPre.call hN hP hD hK hE hS⟩ rfl rfl hl.1 rfl (lv_room (Nat.le_of_ble_eq_true rfl)) dL_stepOf_4 ⟨Nat.zero_le _, Nat.zero_le _⟩).run) (fun r_4 h_4 => ?_)
  have h_4 : r_4 = (zStep c p) := h_4
  subst h_4
  refine lv_i2l hx hb dL_stepOf_7 rfl ?_
  refine va_last hx hb hK hP hD hS 8 1 rfl rfl (vp_in_nI (n := 0) (by decide) (by decide)) dL_stepOf_8 (fun H locs hP hD hS => ?_)
  have hP : va_P D vwCl (wX h d cA z c ++ ((o, .inl (cL, 1, .inr (.inl (vp_updL g (0 : Int32).toNatClampNeg (zStep c p).toInt64)))) :: E)) H := hP
  have hD : va_D (zA N0) (wX h d cA z c ++ ((o, .inl (cL, 1, .inr (.inl (vp_updL g (0 : Int32).toNatClampNeg (zStep c p).toInt64)))) :: E)) := hD
  refine lv_goto (tgt := 15) hx hb dL_stepOf_9 (by decide) ?_
  refine lv_iconst (v := 0) hx hb dL_stepOf_15 (by decide) ?_
  exact W.iret (v := 0) hx hb hr (fun t ht hW => ⟨⟨_, (), rfl, rfl, ⟨by rw [ht]; exact hP, hD⟩⟩, hS.F ht⟩) hS.2.2 dL_stepOf_16

set_option maxHeartbeats 4000000 in
set_option maxRecDepth 100000 in
theorem c_L_stepOf_1 (l : Launch) (hst : l.stackTraces = false) (D : va_G) (N0 : Nat) (cA cL : ClassId) (E : va_W) (h : Nat) (d : Nat → Nat) (z : S7) (c : C5) (o : Nat) (g : Nat → Int64) (p : Int32) (hp : ¬ zp p) : Met l yL_stepOf wsL_stepOf ({ frames := 9, cells := 1, slots := 6, locals := 145 }) (va_Pc [.ref h, .int p, .ref o] (zPre D N0 cA cL (wX h d cA z c ++ ((o, .inl (cL, 1, .inr (.inl g))) :: E)))) (va_Qi (fun (rv : Int32) (_ : Unit) => rv = 1) (fun _ t => zPost D N0 (wX h d cA z c ++ ((o, .inl (cL, 1, .inr (.inl g))) :: E)) t) (zA N0)) 1 6 (zA N0) := by
  refine va_MetW (cc := cL_stepOf) (maxL := 4) (ret := (some .int)) (by decide) rfl ?_
  intro pr e s m ag below meth cd s₁ B hml hv
  obtain ⟨rfl, hN, hP, hD, hK, hE⟩ := hv
  have hx := B.exec
  have hb := B.bytes
  have hr := B.returns
  have hts := atoms_spec (ws := wsL_stepOf) B.pre
  have hown : s.vm.findClass RL = some m.cls := findClass_of_methodNamed B.named
  have hlocks := B.notSynchronized
  have htab := vx_table (x := yL_stepOf) B (hts (.codeWith yL_stepOf cL_stepOf 4 (some .int) [(0, 9, 12, 13)]) List.mem_cons_self)
  have hS : va_S (zA N0) s.heap s.heap [] := va_S.rf
  have hl := lv_entry ([.ref h, .int p, .ref o]) (n := 4) (Nat.le_of_ble_eq_true rfl)
  rw [lg_entry_eq]
  generalize (lg_sl ([.ref h, .int p, .ref o]) ++ List.replicate (4 - (lg_sl ([.ref h, .int p, .ref o])).length) Slot.unset).toArray = ls at hl ⊢
  have hl : lv_has ls 4 [(0, .ref h), (1, .int p), (2, .ref o)] := hl
  refine lv_aload_n hx hb dL_stepOf_0 rfl (lv_at hl 2 rfl) ?_
  refine lv_iconst (v := 0) hx hb dL_stepOf_1 (by decide) ?_
  refine lv_aload_n hx hb dL_stepOf_2 rfl (lv_at hl 0 rfl) ?_
  refine lv_iload_n hx hb dL_stepOf_3 rfl (lv_at hl 1 rfl) ?_
  refine vx_calli (vx_runV (As := [.int p]) (rest := [.int 0, .ref o]) ⟨hx, hb, hml, hown, hts⟩ (x_X0_stepOf_1 l hst N0 s.heap h p hp) (cwV 1 hts gL_stepOf_X0_stepOf rfl rfl rfl (by decide +kernel) ⟨Nat.le_of_ble_eq_true rfl, Nat.le_of_ble_eq_true rfl⟩) ⟨zPx.blind, va_recv hK hP (ci := 0) (q0 := 0) rfl rfl, zPx.call hN hE hS⟩ rfl rfl hl.1 rfl (lv_room (Nat.le_of_ble_eq_true rfl)) dL_stepOf_4 ⟨Nat.le_refl _, Nat.le_refl _⟩) hS (fun _ _ h9 => h9) (fun _ h9 => h9) (fun _ _ h9 => h9) (fun Ex ce q9 u t H locs ht hvm hp9 hB hz1 hk1 hS hce hcv hcl => ?_) (fun r u t H locs ht hvm hp9 hB hz1 hk1 hS => hp9.elim)
  obtain ⟨rfl, hB2, hB3⟩ := hB
  have hP : va_P D vwCl (wX h d cA z c ++ ((o, .inl (cL, 1, .inr (.inl g))) :: E)) H := hP.kept (fun k q hq => by rw [← ht]; exact hB3 q.1 ((hP k q hq).lt))
  refine vx_catch (name := xI) hown [] (⟨0, 9, 12, 13⟩ : ExceptionTableEntry) [] (htab.trans rfl) (fun z9 h9 => nomatch h9) (by decide) (by decide) (hts (.classLink RL 13 xI) (by decide +kernel)) (va_Nw.use rfl hE.2.2.2.2.2.2.2.2.2.1) hce hcv hcl ?_
  refine lv_astore_n (lv' := [(3, .ref q9), (0, .ref h), (1, .int p), (2, .ref o)]) hx hb dL_stepOf_12 rfl hl (by decide) rfl (fun ls hl => ?_)
  refine lv_iconst (v := 1) hx hb dL_stepOf_13 (by decide) ?_
  exact W.iret (v := 1) hx hb hr (fun t ht hW => ⟨⟨_, (), rfl, rfl, ⟨by rw [ht]; exact hP, hD⟩⟩, hS.F ht⟩) hS.2.2 dL_stepOf_14

set_option maxHeartbeats 4000000 in
set_option maxRecDepth 100000 in
theorem c_L_rung_v (l : Launch) (D : va_G) (N0 : Nat) (cA cL : ClassId) (E : va_W) (h : Nat) (d : Nat → Nat) (z : S7) (c : C5) (o : Nat) (g : Nat → Int64) (num : Int32) (hc : okC c) (hv : ¬ zRg c num < 0) : Met l yL_rung wsL_rung ({ frames := 5, cells := 0, slots := 0, locals := 112 }) (va_Pc [.ref h, .int num, .ref o] (zPre D N0 cA cL (wX h d cA z c ++ ((o, .inl (cL, 1, .inr (.inl g))) :: E)))) (va_Qi (fun (rv : Int32) (_ : Unit) => rv = 0) (fun _ t => zPost D N0 (wX h d cA z c ++ ((o, .inl (cL, 1, .inr (.inl (vp_updL g (0 : Int32).toNatClampNeg (zRg c num).toInt64)))) :: E)) t) (zA N0)) 0 0 (zA N0) := by
  refine va_MetW (cc := cL_rung) (maxL := 4) (ret := (some .int)) (by decide) rfl ?_
  intro pr e s m ag below meth cd s₁ B hml hv
  obtain ⟨rfl, hN, hP, hD, hK, hE⟩ := hv
  have hx := B.exec
  have hb := B.bytes
  have hr := B.returns
  have hts := atoms_spec (ws := wsL_rung) B.pre
  have hown : s.vm.findClass RL = some m.cls := findClass_of_methodNamed B.named
  have hlocks := B.notSynchronized
  have hS : va_S (zA N0) s.heap s.heap [] := va_S.rf
  have hl := lv_entry ([.ref h, .int num, .ref o]) (n := 4) (Nat.le_of_ble_eq_true rfl)
  rw [lg_entry_eq]
  generalize (lg_sl ([.ref h, .int num, .ref o]) ++ List.replicate (4 - (lg_sl ([.ref h, .int num, .ref o])).length) Slot.unset).toArray = ls at hl ⊢
  have hl : lv_has ls 4 [(0, .ref h), (1, .int num), (2, .ref o)] := hl
  refine lv_aload_n hx hb dL_rung_0 rfl (lv_at hl 2 rfl) ?_
  refine lv_iconst (v := 0) hx hb dL_rung_1 (by decide) ?_
  refine lv_aload_n hx hb dL_rung_2 rfl (lv_at hl 0 rfl) ?_
  refine lv_iload_n hx hb dL_rung_3 rfl (lv_at hl 1 rfl) ?_
  refine vp_callSi ((va_runV (As := [.int num]) (rest := [.int 0, .ref o]) ⟨hx, hb, hml, hown, hts⟩ (c_X0_rung_v l D N0 cA cL ((o, .inl (cL, 1, .inr (.inl g))) :: E) h d z c num hc hv) (cwV 1 hts gL_rung_X0_rung rfl rfl rfl (by decide +kernel) ⟨Nat.le_of_ble_eq_true rfl, Nat.le_of_ble_eq_true rfl⟩) ⟨zPre.blind, va_recv hK hP (ci := 0) (q0 := 0) rfl rfl, zPre.call hN hP hD hK hE hS⟩ rfl rfl hl.1 rfl (lv_room (Nat.le_of_ble_eq_true rfl)) dL_rung_4 ⟨Nat.zero_le _, Nat.zero_le _⟩).run) (fun r_4 h_4 => ?_)
  have h_4 : r_4 = (zRg c num) := h_4
  subst h_4
  refine lv_i2l hx hb dL_rung_7 rfl ?_
  refine va_last hx hb hK hP hD hS 8 1 rfl rfl (vp_in_nI (n := 0) (by decide) (by decide)) dL_rung_8 (fun H locs hP hD hS => ?_)
  have hP : va_P D vwCl (wX h d cA z c ++ ((o, .inl (cL, 1, .inr (.inl (vp_updL g (0 : Int32).toNatClampNeg (zRg c num).toInt64)))) :: E)) H := hP
  have hD : va_D (zA N0) (wX h d cA z c ++ ((o, .inl (cL, 1, .inr (.inl (vp_updL g (0 : Int32).toNatClampNeg (zRg c num).toInt64)))) :: E)) := hD
  refine lv_goto (tgt := 15) hx hb dL_rung_9 (by decide) ?_
  refine lv_iconst (v := 0) hx hb dL_rung_15 (by decide) ?_
  exact W.iret (v := 0) hx hb hr (fun t ht hW => ⟨⟨_, (), rfl, rfl, ⟨by rw [ht]; exact hP, hD⟩⟩, hS.F ht⟩) hS.2.2 dL_rung_16

set_option maxHeartbeats 4000000 in
set_option maxRecDepth 100000 in
theorem c_L_rung_1 (l : Launch) (hst : l.stackTraces = false) (D : va_G) (N0 : Nat) (cA cL : ClassId) (E : va_W) (h : Nat) (d : Nat → Nat) (z : S7) (c : C5) (o : Nat) (g : Nat → Int64) (num : Int32) (hc : okC c) (hv : zRg c num < 0) : Met l yL_rung wsL_rung ({ frames := 9, cells := 1, slots := 6, locals := 147 }) (va_Pc [.ref h, .int num, .ref o] (zPre D N0 cA cL (wX h d cA z c ++ ((o, .inl (cL, 1, .inr (.inl g))) :: E)))) (va_Qi (fun (rv : Int32) (_ : Unit) => rv = 1) (fun _ t => zPost D N0 (wX h d cA z c ++ ((o, .inl (cL, 1, .inr (.inl g))) :: E)) t) (zA N0)) 1 6 (zA N0) := by
  refine va_MetW (cc := cL_rung) (maxL := 4) (ret := (some .int)) (by decide) rfl ?_
  intro pr e s m ag below meth cd s₁ B hml hv
  obtain ⟨rfl, hN, hP, hD, hK, hE⟩ := hv
  have hx := B.exec
  have hb := B.bytes
  have hr := B.returns
  have hts := atoms_spec (ws := wsL_rung) B.pre
  have hown : s.vm.findClass RL = some m.cls := findClass_of_methodNamed B.named
  have hlocks := B.notSynchronized
  have htab := vx_table (x := yL_rung) B (hts (.codeWith yL_rung cL_rung 4 (some .int) [(0, 9, 12, 22)]) List.mem_cons_self)
  have hS : va_S (zA N0) s.heap s.heap [] := va_S.rf
  have hl := lv_entry ([.ref h, .int num, .ref o]) (n := 4) (Nat.le_of_ble_eq_true rfl)
  rw [lg_entry_eq]
  generalize (lg_sl ([.ref h, .int num, .ref o]) ++ List.replicate (4 - (lg_sl ([.ref h, .int num, .ref o])).length) Slot.unset).toArray = ls at hl ⊢
  have hl : lv_has ls 4 [(0, .ref h), (1, .int num), (2, .ref o)] := hl
  refine lv_aload_n hx hb dL_rung_0 rfl (lv_at hl 2 rfl) ?_
  refine lv_iconst (v := 0) hx hb dL_rung_1 (by decide) ?_
  refine lv_aload_n hx hb dL_rung_2 rfl (lv_at hl 0 rfl) ?_
  refine lv_iload_n hx hb dL_rung_3 rfl (lv_at hl 1 rfl) ?_
  refine vx_calli (vx_runV (As := [.int num]) (rest := [.int 0, .ref o]) ⟨hx, hb, hml, hown, hts⟩ (x_X0_rung_1 l hst N0 s.heap D cA cL ((o, .inl (cL, 1, .inr (.inl g))) :: E) d z c h num hc hv) (cwV 1 hts gL_rung_X0_rung rfl rfl rfl (by decide +kernel) ⟨Nat.le_of_ble_eq_true rfl, Nat.le_of_ble_eq_true rfl⟩) ⟨zPw.blind, va_recv hK hP (ci := 0) (q0 := 0) rfl rfl, fun U hU hW => ⟨rfl, hU, (zPre.call (av := []) hN hP hD hK hE hS U hU hW).2⟩⟩ rfl rfl hl.1 rfl (lv_room (Nat.le_of_ble_eq_true rfl)) dL_rung_4 ⟨Nat.le_refl _, Nat.le_refl _⟩) hS (fun _ _ h9 => h9) (fun _ h9 => h9) (fun _ _ h9 => h9) (fun Ex ce q9 u t H locs ht hvm hp9 hB hz1 hk1 hS hce hcv hcl => ?_) (fun r u t H locs ht hvm hp9 hB hz1 hk1 hS => hp9.elim)
  obtain ⟨rfl, hB2, hB3⟩ := hB
  have hP : va_P D vwCl (wX h d cA z c ++ ((o, .inl (cL, 1, .inr (.inl g))) :: E)) H := hP.kept (fun k q hq => by rw [← ht]; exact hB3 q.1 ((hP k q hq).lt))
  refine vx_catch (name := xO) hown [] (⟨0, 9, 12, 22⟩ : ExceptionTableEntry) [] (htab.trans rfl) (fun z9 h9 => nomatch h9) (by decide) (by decide) (hts (.classLink RL 22 xO) (by decide +kernel)) (va_Nw.use rfl hE.2.2.2.2.2.2.2.2.2.2.1) hce hcv hcl ?_
  refine lv_astore_n (lv' := [(3, .ref q9), (0, .ref h), (1, .int num), (2, .ref o)]) hx hb dL_rung_12 rfl hl (by decide) rfl (fun ls hl => ?_)
  refine lv_iconst (v := 1) hx hb dL_rung_13 (by decide) ?_
  exact W.iret (v := 1) hx hb hr (fun t ht hW => ⟨⟨_, (), rfl, rfl, ⟨by rw [ht]; exact hP, hD⟩⟩, hS.F ht⟩) hS.2.2 dL_rung_14

set_option maxHeartbeats 4000000 in
set_option maxRecDepth 100000 in
theorem c_L_sung_v (l : Launch) (D : va_G) (N0 : Nat) (cA cL : ClassId) (E : va_W) (h : Nat) (d : Nat → Nat) (z : S7) (c : C5) (o : Nat) (g : Nat → Int64) (k : Int32) (hk : 0 ≤ k ∧ k ≤ 11) : Met l yL_sung wsL_sung ({ frames := 1, cells := 0, slots := 0, locals := 21 }) (va_Pc [.ref h, .int k, .ref o] (zPre D N0 cA cL (wX h d cA z c ++ ((o, .inl (cL, 1, .inr (.inl g))) :: E)))) (va_Qi (fun (rv : Int32) (_ : Unit) => rv = 0) (fun _ t => zPost D N0 (wX h d cA z c ++ ((o, .inl (cL, 1, .inr (.inl (vp_updL g (0 : Int32).toNatClampNeg (z.2.2.2.2.2.2 k.toNatClampNeg).toInt64)))) :: E)) t) (zA N0)) 0 0 (zA N0) := by
  refine va_MetW (cc := cL_sung) (maxL := 4) (ret := (some .int)) (by decide) rfl ?_
  intro pr e s m ag below meth cd s₁ B hml hv
  obtain ⟨rfl, hN, hP, hD, hK, hE⟩ := hv
  have hx := B.exec
  have hb := B.bytes
  have hr := B.returns
  have hts := atoms_spec (ws := wsL_sung) B.pre
  have hown : s.vm.findClass RL = some m.cls := findClass_of_methodNamed B.named
  have hlocks := B.notSynchronized
  have hS : va_S (zA N0) s.heap s.heap [] := va_S.rf
  have hl := lv_entry ([.ref h, .int k, .ref o]) (n := 4) (Nat.le_of_ble_eq_true rfl)
  rw [lg_entry_eq]
  generalize (lg_sl ([.ref h, .int k, .ref o]) ++ List.replicate (4 - (lg_sl ([.ref h, .int k, .ref o])).length) Slot.unset).toArray = ls at hl ⊢
  have hl : lv_has ls 4 [(0, .ref h), (1, .int k), (2, .ref o)] := hl
  refine lv_aload_n hx hb dL_sung_0 rfl (lv_at hl 2 rfl) ?_
  refine lv_iconst (v := 0) hx hb dL_sung_1 (by decide) ?_
  refine lv_aload_n hx hb dL_sung_2 rfl (lv_at hl 0 rfl) ?_
  refine lv_iload_n hx hb dL_sung_3 rfl (lv_at hl 1 rfl) ?_
  refine vp_callSi ((va_runV (As := [.int k]) (rest := [.int 0, .ref o]) ⟨hx, hb, hml, hown, hts⟩ (c_X0_sung_v l D N0 cA cL ((o, .inl (cL, 1, .inr (.inl g))) :: E) h d z c k hk) (cwV 1 hts gL_sung_X0_sung rfl rfl rfl (by decide +kernel) ⟨Nat.le_of_ble_eq_true rfl, Nat.le_of_ble_eq_true rfl⟩) ⟨zPre.blind, va_recv hK hP (ci := 0) (q0 := 0) rfl rfl, zPre.call hN hP hD hK hE hS⟩ rfl rfl hl.1 rfl (lv_room (Nat.le_of_ble_eq_true rfl)) dL_sung_4 ⟨Nat.zero_le _, Nat.zero_le _⟩).run) (fun r_4 h_4 => ?_)
  have h_4 : r_4 = (z.2.2.2.2.2.2 k.toNatClampNeg) := h_4
  subst h_4
  refine lv_i2l hx hb dL_sung_7 rfl ?_
  refine va_last hx hb hK hP hD hS 8 1 rfl rfl (vp_in_nI (n := 0) (by decide) (by decide)) dL_sung_8 (fun H locs hP hD hS => ?_)
  have hP : va_P D vwCl (wX h d cA z c ++ ((o, .inl (cL, 1, .inr (.inl (vp_updL g (0 : Int32).toNatClampNeg (z.2.2.2.2.2.2 k.toNatClampNeg).toInt64)))) :: E)) H := hP
  have hD : va_D (zA N0) (wX h d cA z c ++ ((o, .inl (cL, 1, .inr (.inl (vp_updL g (0 : Int32).toNatClampNeg (z.2.2.2.2.2.2 k.toNatClampNeg).toInt64)))) :: E)) := hD
  refine lv_goto (tgt := 15) hx hb dL_sung_9 (by decide) ?_
  refine lv_iconst (v := 0) hx hb dL_sung_15 (by decide) ?_
  exact W.iret (v := 0) hx hb hr (fun t ht hW => ⟨⟨_, (), rfl, rfl, ⟨by rw [ht]; exact hP, hD⟩⟩, hS.F ht⟩) hS.2.2 dL_sung_16

set_option maxHeartbeats 4000000 in
set_option maxRecDepth 100000 in
theorem c_L_sung_1 (l : Launch) (hst : l.stackTraces = false) (D : va_G) (N0 : Nat) (cA cL : ClassId) (E : va_W) (h : Nat) (d : Nat → Nat) (z : S7) (c : C5) (o : Nat) (g : Nat → Int64) (k : Int32) (hk : ¬ (0 ≤ k ∧ k ≤ 11)) : Met l yL_sung wsL_sung ({ frames := 9, cells := 1, slots := 6, locals := 145 }) (va_Pc [.ref h, .int k, .ref o] (zPre D N0 cA cL (wX h d cA z c ++ ((o, .inl (cL, 1, .inr (.inl g))) :: E)))) (va_Qi (fun (rv : Int32) (_ : Unit) => rv = 1) (fun _ t => zPost D N0 (wX h d cA z c ++ ((o, .inl (cL, 1, .inr (.inl g))) :: E)) t) (zA N0)) 1 6 (zA N0) := by
  refine va_MetW (cc := cL_sung) (maxL := 4) (ret := (some .int)) (by decide) rfl ?_
  intro pr e s m ag below meth cd s₁ B hml hv
  obtain ⟨rfl, hN, hP, hD, hK, hE⟩ := hv
  have hx := B.exec
  have hb := B.bytes
  have hr := B.returns
  have hts := atoms_spec (ws := wsL_sung) B.pre
  have hown : s.vm.findClass RL = some m.cls := findClass_of_methodNamed B.named
  have hlocks := B.notSynchronized
  have htab := vx_table (x := yL_sung) B (hts (.codeWith yL_sung cL_sung 4 (some .int) [(0, 9, 12, 22)]) List.mem_cons_self)
  have hS : va_S (zA N0) s.heap s.heap [] := va_S.rf
  have hl := lv_entry ([.ref h, .int k, .ref o]) (n := 4) (Nat.le_of_ble_eq_true rfl)
  rw [lg_entry_eq]
  generalize (lg_sl ([.ref h, .int k, .ref o]) ++ List.replicate (4 - (lg_sl ([.ref h, .int k, .ref o])).length) Slot.unset).toArray = ls at hl ⊢
  have hl : lv_has ls 4 [(0, .ref h), (1, .int k), (2, .ref o)] := hl
  refine lv_aload_n hx hb dL_sung_0 rfl (lv_at hl 2 rfl) ?_
  refine lv_iconst (v := 0) hx hb dL_sung_1 (by decide) ?_
  refine lv_aload_n hx hb dL_sung_2 rfl (lv_at hl 0 rfl) ?_
  refine lv_iload_n hx hb dL_sung_3 rfl (lv_at hl 1 rfl) ?_
  refine vx_calli (vx_runV (As := [.int k]) (rest := [.int 0, .ref o]) ⟨hx, hb, hml, hown, hts⟩ (x_X0_sung_1 l hst N0 s.heap h k hk) (cwV 1 hts gL_sung_X0_sung rfl rfl rfl (by decide +kernel) ⟨Nat.le_of_ble_eq_true rfl, Nat.le_of_ble_eq_true rfl⟩) ⟨zPx.blind, va_recv hK hP (ci := 0) (q0 := 0) rfl rfl, zPx.call hN hE hS⟩ rfl rfl hl.1 rfl (lv_room (Nat.le_of_ble_eq_true rfl)) dL_sung_4 ⟨Nat.le_refl _, Nat.le_refl _⟩) hS (fun _ _ h9 => h9) (fun _ h9 => h9) (fun _ _ h9 => h9) (fun Ex ce q9 u t H locs ht hvm hp9 hB hz1 hk1 hS hce hcv hcl => ?_) (fun r u t H locs ht hvm hp9 hB hz1 hk1 hS => hp9.elim)
  obtain ⟨rfl, hB2, hB3⟩ := hB
  have hP : va_P D vwCl (wX h d cA z c ++ ((o, .inl (cL, 1, .inr (.inl g))) :: E)) H := hP.kept (fun k q hq => by rw [← ht]; exact hB3 q.1 ((hP k q hq).lt))
  refine vx_catch (name := xO) hown [] (⟨0, 9, 12, 22⟩ : ExceptionTableEntry) [] (htab.trans rfl) (fun z9 h9 => nomatch h9) (by decide) (by decide) (hts (.classLink RL 22 xO) (by decide +kernel)) (va_Nw.use rfl hE.2.2.2.2.2.2.2.2.2.2.1) hce hcv hcl ?_
  refine lv_astore_n (lv' := [(3, .ref q9), (0, .ref h), (1, .int k), (2, .ref o)]) hx hb dL_sung_12 rfl hl (by decide) rfl (fun ls hl => ?_)
  refine lv_iconst (v := 1) hx hb dL_sung_13 (by decide) ?_
  exact W.iret (v := 1) hx hb hr (fun t ht hW => ⟨⟨_, (), rfl, rfl, ⟨by rw [ht]; exact hP, hD⟩⟩, hS.F ht⟩) hS.2.2 dL_sung_14

set_option maxHeartbeats 4000000 in
set_option maxRecDepth 100000 in
theorem c_L_bestKey_v (l : Launch) (D : va_G) (N0 : Nat) (cA cL : ClassId) (E : va_W) (h : Nat) (d : Nat → Nat) (z : S7) (c : C5) (o : Nat) (g : Nat → Int64) (md : Nat) (hm : md < 8) : Met l yL_bestKey wsL_bestKey ({ frames := 4, cells := 0, slots := 0, locals := 96 }) (va_Pc [.ref h, .int (nI md), .ref o] (zPre D N0 cA cL (wX h d cA z c ++ ((o, .inl (cL, 1, .inr (.inl g))) :: E)))) (va_Qi (fun (rv : Int32) (_ : Unit) => rv = 0) (fun _ t => zPost D N0 (wX h d cA z c ++ ((o, .inl (cL, 1, .inr (.inl (vp_updL g (0 : Int32).toNatClampNeg (nI (zBk md z.2.2.2.2.2.2)).toInt64)))) :: E)) t) (zA N0)) 0 0 (zA N0) := by
  refine va_MetW (cc := cL_bestKey) (maxL := 4) (ret := (some .int)) (by decide) rfl ?_
  intro pr e s m ag below meth cd s₁ B hml hv
  obtain ⟨rfl, hN, hP, hD, hK, hE⟩ := hv
  have hx := B.exec
  have hb := B.bytes
  have hr := B.returns
  have hts := atoms_spec (ws := wsL_bestKey) B.pre
  have hown : s.vm.findClass RL = some m.cls := findClass_of_methodNamed B.named
  have hlocks := B.notSynchronized
  have hS : va_S (zA N0) s.heap s.heap [] := va_S.rf
  have hl := lv_entry ([.ref h, .int (nI md), .ref o]) (n := 4) (Nat.le_of_ble_eq_true rfl)
  rw [lg_entry_eq]
  generalize (lg_sl ([.ref h, .int (nI md), .ref o]) ++ List.replicate (4 - (lg_sl ([.ref h, .int (nI md), .ref o])).length) Slot.unset).toArray = ls at hl ⊢
  have hl : lv_has ls 4 [(0, .ref h), (1, .int (nI md)), (2, .ref o)] := hl
  refine lv_aload_n hx hb dL_bestKey_0 rfl (lv_at hl 2 rfl) ?_
  refine lv_iconst (v := 0) hx hb dL_bestKey_1 (by decide) ?_
  refine lv_aload_n hx hb dL_bestKey_2 rfl (lv_at hl 0 rfl) ?_
  refine lv_iload_n hx hb dL_bestKey_3 rfl (lv_at hl 1 rfl) ?_
  refine vp_callSi ((va_runV (As := [.int (nI md)]) (rest := [.int 0, .ref o]) ⟨hx, hb, hml, hown, hts⟩ (c_X0_bestKey_v l D N0 cA cL ((o, .inl (cL, 1, .inr (.inl g))) :: E) h d z c md hm) (cwV 1 hts gL_bestKey_X0_bestKey rfl rfl rfl (by decide +kernel) ⟨Nat.le_of_ble_eq_true rfl, Nat.le_of_ble_eq_true rfl⟩) ⟨zPre.blind, va_recv hK hP (ci := 0) (q0 := 0) rfl rfl, zPre.call hN hP hD hK hE hS⟩ rfl rfl hl.1 rfl (lv_room (Nat.le_of_ble_eq_true rfl)) dL_bestKey_4 ⟨Nat.zero_le _, Nat.zero_le _⟩).run) (fun r_4 h_4 => ?_)
  have h_4 : r_4 = (nI (zBk md z.2.2.2.2.2.2)) := h_4
  subst h_4
  refine lv_i2l hx hb dL_bestKey_7 rfl ?_
  refine va_last hx hb hK hP hD hS 8 1 rfl rfl (vp_in_nI (n := 0) (by decide) (by decide)) dL_bestKey_8 (fun H locs hP hD hS => ?_)
  have hP : va_P D vwCl (wX h d cA z c ++ ((o, .inl (cL, 1, .inr (.inl (vp_updL g (0 : Int32).toNatClampNeg (nI (zBk md z.2.2.2.2.2.2)).toInt64)))) :: E)) H := hP
  have hD : va_D (zA N0) (wX h d cA z c ++ ((o, .inl (cL, 1, .inr (.inl (vp_updL g (0 : Int32).toNatClampNeg (nI (zBk md z.2.2.2.2.2.2)).toInt64)))) :: E)) := hD
  refine lv_goto (tgt := 15) hx hb dL_bestKey_9 (by decide) ?_
  refine lv_iconst (v := 0) hx hb dL_bestKey_15 (by decide) ?_
  exact W.iret (v := 0) hx hb hr (fun t ht hW => ⟨⟨_, (), rfl, rfl, ⟨by rw [ht]; exact hP, hD⟩⟩, hS.F ht⟩) hS.2.2 dL_bestKey_16

set_option maxHeartbeats 4000000 in
set_option maxRecDepth 100000 in
theorem c_L_bestKey_1 (l : Launch) (hst : l.stackTraces = false) (D : va_G) (N0 : Nat) (cA cL : ClassId) (E : va_W) (h : Nat) (d : Nat → Nat) (z : S7) (c : C5) (o : Nat) (g : Nat → Int64) (md : Int32) (hm : ¬ (0 ≤ md ∧ md ≤ 7)) : Met l yL_bestKey wsL_bestKey ({ frames := 9, cells := 1, slots := 6, locals := 149 }) (va_Pc [.ref h, .int md, .ref o] (zPre D N0 cA cL (wX h d cA z c ++ ((o, .inl (cL, 1, .inr (.inl g))) :: E)))) (va_Qi (fun (rv : Int32) (_ : Unit) => rv = 1) (fun _ t => zPost D N0 (wX h d cA z c ++ ((o, .inl (cL, 1, .inr (.inl g))) :: E)) t) (zA N0)) 1 6 (zA N0) := by
  refine va_MetW (cc := cL_bestKey) (maxL := 4) (ret := (some .int)) (by decide) rfl ?_
  intro pr e s m ag below meth cd s₁ B hml hv
  obtain ⟨rfl, hN, hP, hD, hK, hE⟩ := hv
  have hx := B.exec
  have hb := B.bytes
  have hr := B.returns
  have hts := atoms_spec (ws := wsL_bestKey) B.pre
  have hown : s.vm.findClass RL = some m.cls := findClass_of_methodNamed B.named
  have hlocks := B.notSynchronized
  have htab := vx_table (x := yL_bestKey) B (hts (.codeWith yL_bestKey cL_bestKey 4 (some .int) [(0, 9, 12, 13)]) List.mem_cons_self)
  have hS : va_S (zA N0) s.heap s.heap [] := va_S.rf
  have hl := lv_entry ([.ref h, .int md, .ref o]) (n := 4) (Nat.le_of_ble_eq_true rfl)
  rw [lg_entry_eq]
  generalize (lg_sl ([.ref h, .int md, .ref o]) ++ List.replicate (4 - (lg_sl ([.ref h, .int md, .ref o])).length) Slot.unset).toArray = ls at hl ⊢
  have hl : lv_has ls 4 [(0, .ref h), (1, .int md), (2, .ref o)] := hl
  refine lv_aload_n hx hb dL_bestKey_0 rfl (lv_at hl 2 rfl) ?_
  refine lv_iconst (v := 0) hx hb dL_bestKey_1 (by decide) ?_
  refine lv_aload_n hx hb dL_bestKey_2 rfl (lv_at hl 0 rfl) ?_
  refine lv_iload_n hx hb dL_bestKey_3 rfl (lv_at hl 1 rfl) ?_
  refine vx_calli (vx_runV (As := [.int md]) (rest := [.int 0, .ref o]) ⟨hx, hb, hml, hown, hts⟩ (x_X0_bestKey_1 l hst N0 s.heap h md hm) (cwV 1 hts gL_bestKey_X0_bestKey rfl rfl rfl (by decide +kernel) ⟨Nat.le_of_ble_eq_true rfl, Nat.le_of_ble_eq_true rfl⟩) ⟨zPx.blind, va_recv hK hP (ci := 0) (q0 := 0) rfl rfl, zPx.call hN hE hS⟩ rfl rfl hl.1 rfl (lv_room (Nat.le_of_ble_eq_true rfl)) dL_bestKey_4 ⟨Nat.le_refl _, Nat.le_refl _⟩) hS (fun _ _ h9 => h9) (fun _ h9 => h9) (fun _ _ h9 => h9) (fun Ex ce q9 u t H locs ht hvm hp9 hB hz1 hk1 hS hce hcv hcl => ?_) (fun r u t H locs ht hvm hp9 hB hz1 hk1 hS => hp9.elim)
  obtain ⟨rfl, hB2, hB3⟩ := hB
  have hP : va_P D vwCl (wX h d cA z c ++ ((o, .inl (cL, 1, .inr (.inl g))) :: E)) H := hP.kept (fun k q hq => by rw [← ht]; exact hB3 q.1 ((hP k q hq).lt))
  refine vx_catch (name := xI) hown [] (⟨0, 9, 12, 13⟩ : ExceptionTableEntry) [] (htab.trans rfl) (fun z9 h9 => nomatch h9) (by decide) (by decide) (hts (.classLink RL 13 xI) (by decide +kernel)) (va_Nw.use rfl hE.2.2.2.2.2.2.2.2.2.1) hce hcv hcl ?_
  refine lv_astore_n (lv' := [(3, .ref q9), (0, .ref h), (1, .int md), (2, .ref o)]) hx hb dL_bestKey_12 rfl hl (by decide) rfl (fun ls hl => ?_)
  refine lv_iconst (v := 1) hx hb dL_bestKey_13 (by decide) ?_
  exact W.iret (v := 1) hx hb hr (fun t ht hW => ⟨⟨_, (), rfl, rfl, ⟨by rw [ht]; exact hP, hD⟩⟩, hS.F ht⟩) hS.2.2 dL_bestKey_14

set_option maxHeartbeats 4000000 in
set_option maxRecDepth 100000 in
theorem c_L_within_v (l : Launch) (D : va_G) (N0 : Nat) (cA cL : ClassId) (E : va_W) (h : Nat) (d : Nat → Nat) (z : S7) (c : C5) (o : Nat) (g : Nat → Int64) (ky md : Nat) (hk : ky < 12) (hm : md < 8) : Met l yL_within wsL_within ({ frames := 4, cells := 0, slots := 0, locals := 93 }) (va_Pc [.ref h, .int (nI ky), .int (nI md), .ref o] (zPre D N0 cA cL (wX h d cA z c ++ ((o, .inl (cL, 1, .inr (.inl g))) :: E)))) (va_Qi (fun (rv : Int32) (_ : Unit) => rv = 0) (fun _ t => zPost D N0 (wX h d cA z c ++ ((o, .inl (cL, 1, .inr (.inl (vp_updL g (0 : Int32).toNatClampNeg (zW md ky z.2.2.2.2.2.2).toInt64)))) :: E)) t) (zA N0)) 0 0 (zA N0) := by
  refine va_MetW (cc := cL_within) (maxL := 5) (ret := (some .int)) (by decide) rfl ?_
  intro pr e s m ag below meth cd s₁ B hml hv
  obtain ⟨rfl, hN, hP, hD, hK, hE⟩ := hv
  have hx := B.exec
  have hb := B.bytes
  have hr := B.returns
  have hts := atoms_spec (ws := wsL_within) B.pre
  have hown : s.vm.findClass RL = some m.cls := findClass_of_methodNamed B.named
  have hlocks := B.notSynchronized
  have hS : va_S (zA N0) s.heap s.heap [] := va_S.rf
  have hl := lv_entry ([.ref h, .int (nI ky), .int (nI md), .ref o]) (n := 5) (Nat.le_of_ble_eq_true rfl)
  rw [lg_entry_eq]
  generalize (lg_sl ([.ref h, .int (nI ky), .int (nI md), .ref o]) ++ List.replicate (5 - (lg_sl ([.ref h, .int (nI ky), .int (nI md), .ref o])).length) Slot.unset).toArray = ls at hl ⊢
  have hl : lv_has ls 5 [(0, .ref h), (1, .int (nI ky)), (2, .int (nI md)), (3, .ref o)] := hl
  refine lv_aload_n hx hb dL_within_0 rfl (lv_at hl 3 rfl) ?_
  refine lv_iconst (v := 0) hx hb dL_within_1 (by decide) ?_
  refine lv_aload_n hx hb dL_within_2 rfl (lv_at hl 0 rfl) ?_
  refine lv_iload_n hx hb dL_within_3 rfl (lv_at hl 1 rfl) ?_
  refine lv_iload_n hx hb dL_within_4 rfl (lv_at hl 2 rfl) ?_
  refine vp_callSi ((va_runV (As := [.int (nI ky), .int (nI md)]) (rest := [.int 0, .ref o]) ⟨hx, hb, hml, hown, hts⟩ (c_X0_within_v l D N0 cA cL ((o, .inl (cL, 1, .inr (.inl g))) :: E) h d z c ky md hk hm) (cwV 2 hts gL_within_X0_within rfl rfl rfl (by decide +kernel) ⟨Nat.le_of_ble_eq_true rfl, Nat.le_of_ble_eq_true rfl⟩) ⟨zPre.blind, va_recv hK hP (ci := 0) (q0 := 0) rfl rfl, zPre.call hN hP hD hK hE hS⟩ rfl rfl hl.1 rfl (lv_room (Nat.le_of_ble_eq_true rfl)) dL_within_5 ⟨Nat.zero_le _, Nat.zero_le _⟩).run) (fun r_5 h_5 => ?_)
  have h_5 : r_5 = (zW md ky z.2.2.2.2.2.2) := h_5
  subst h_5
  refine lv_i2l hx hb dL_within_8 rfl ?_
  refine va_last hx hb hK hP hD hS 8 1 rfl rfl (vp_in_nI (n := 0) (by decide) (by decide)) dL_within_9 (fun H locs hP hD hS => ?_)
  have hP : va_P D vwCl (wX h d cA z c ++ ((o, .inl (cL, 1, .inr (.inl (vp_updL g (0 : Int32).toNatClampNeg (zW md ky z.2.2.2.2.2.2).toInt64)))) :: E)) H := hP
  have hD : va_D (zA N0) (wX h d cA z c ++ ((o, .inl (cL, 1, .inr (.inl (vp_updL g (0 : Int32).toNatClampNeg (zW md ky z.2.2.2.2.2.2).toInt64)))) :: E)) := hD
  refine lv_goto (tgt := 17) hx hb dL_within_10 (by decide) ?_
  refine lv_iconst (v := 0) hx hb dL_within_17 (by decide) ?_
  exact W.iret (v := 0) hx hb hr (fun t ht hW => ⟨⟨_, (), rfl, rfl, ⟨by rw [ht]; exact hP, hD⟩⟩, hS.F ht⟩) hS.2.2 dL_within_18

set_option maxHeartbeats 4000000 in
set_option maxRecDepth 100000 in
theorem c_L_within_1 (l : Launch) (hst : l.stackTraces = false) (D : va_G) (N0 : Nat) (cA cL : ClassId) (E : va_W) (h : Nat) (d : Nat → Nat) (z : S7) (c : C5) (o : Nat) (g : Nat → Int64) (key md : Int32) (hn : ¬ ((0 ≤ key ∧ key ≤ 11) ∧ (0 ≤ md ∧ md ≤ 7))) : Met l yL_within wsL_within ({ frames := 9, cells := 1, slots := 6, locals := 146 }) (va_Pc [.ref h, .int key, .int md, .ref o] (zPre D N0 cA cL (wX h d cA z c ++ ((o, .inl (cL, 1, .inr (.inl g))) :: E)))) (va_Qi (fun (rv : Int32) (_ : Unit) => rv = 1) (fun _ t => zPost D N0 (wX h d cA z c ++ ((o, .inl (cL, 1, .inr (.inl g))) :: E)) t) (zA N0)) 1 6 (zA N0) := by
  refine va_MetW (cc := cL_within) (maxL := 5) (ret := (some .int)) (by decide) rfl ?_
  intro pr e s m ag below meth cd s₁ B hml hv
  obtain ⟨rfl, hN, hP, hD, hK, hE⟩ := hv
  have hx := B.exec
  have hb := B.bytes
  have hr := B.returns
  have hts := atoms_spec (ws := wsL_within) B.pre
  have hown : s.vm.findClass RL = some m.cls := findClass_of_methodNamed B.named
  have hlocks := B.notSynchronized
  have htab := vx_table (x := yL_within) B (hts (.codeWith yL_within cL_within 5 (some .int) [(0, 10, 13, 13)]) List.mem_cons_self)
  have hS : va_S (zA N0) s.heap s.heap [] := va_S.rf
  have hl := lv_entry ([.ref h, .int key, .int md, .ref o]) (n := 5) (Nat.le_of_ble_eq_true rfl)
  rw [lg_entry_eq]
  generalize (lg_sl ([.ref h, .int key, .int md, .ref o]) ++ List.replicate (5 - (lg_sl ([.ref h, .int key, .int md, .ref o])).length) Slot.unset).toArray = ls at hl ⊢
  have hl : lv_has ls 5 [(0, .ref h), (1, .int key), (2, .int md), (3, .ref o)] := hl
  refine lv_aload_n hx hb dL_within_0 rfl (lv_at hl 3 rfl) ?_
  refine lv_iconst (v := 0) hx hb dL_within_1 (by decide) ?_
  refine lv_aload_n hx hb dL_within_2 rfl (lv_at hl 0 rfl) ?_
  refine lv_iload_n hx hb dL_within_3 rfl (lv_at hl 1 rfl) ?_
  refine lv_iload_n hx hb dL_within_4 rfl (lv_at hl 2 rfl) ?_
  refine vx_calli (vx_runV (As := [.int key, .int md]) (rest := [.int 0, .ref o]) ⟨hx, hb, hml, hown, hts⟩ (x_X0_within_I l hst N0 s.heap h key md hn) (cwV 2 hts gL_within_X0_within rfl rfl rfl (by decide +kernel) ⟨Nat.le_of_ble_eq_true rfl, Nat.le_of_ble_eq_true rfl⟩) ⟨zPx.blind, va_recv hK hP (ci := 0) (q0 := 0) rfl rfl, zPx.call hN hE hS⟩ rfl rfl hl.1 rfl (lv_room (Nat.le_of_ble_eq_true rfl)) dL_within_5 ⟨Nat.le_refl _, Nat.le_refl _⟩) hS (fun _ _ h9 => h9) (fun _ h9 => h9) (fun _ _ h9 => h9) (fun Ex ce q9 u t H locs ht hvm hp9 hB hz1 hk1 hS hce hcv hcl => ?_) (fun r u t H locs ht hvm hp9 hB hz1 hk1 hS => hp9.elim)
  obtain ⟨rfl, hB2, hB3⟩ := hB
  have hP : va_P D vwCl (wX h d cA z c ++ ((o, .inl (cL, 1, .inr (.inl g))) :: E)) H := hP.kept (fun k q hq => by rw [← ht]; exact hB3 q.1 ((hP k q hq).lt))
  refine vx_catch (name := xI) hown [] (⟨0, 10, 13, 13⟩ : ExceptionTableEntry) [] (htab.trans rfl) (fun z9 h9 => nomatch h9) (by decide) (by decide) (hts (.classLink RL 13 xI) (by decide +kernel)) (va_Nw.use rfl hE.2.2.2.2.2.2.2.2.2.1) hce hcv hcl ?_
  refine lv_astore (lv' := [(4, .ref q9), (0, .ref h), (1, .int key), (2, .int md), (3, .ref o)]) hx hb dL_within_13 hl (by decide) rfl (fun ls hl => ?_)
  refine lv_iconst (v := 1) hx hb dL_within_15 (by decide) ?_
  exact W.iret (v := 1) hx hb hr (fun t ht hW => ⟨⟨_, (), rfl, rfl, ⟨by rw [ht]; exact hP, hD⟩⟩, hS.F ht⟩) hS.2.2 dL_within_16
