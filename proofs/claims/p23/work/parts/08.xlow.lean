set_option maxHeartbeats 4000000 in
set_option maxRecDepth 100000 in
theorem c_J9_floorMod_7cf53 (l : Launch) (x : Int32) (d0 : Nat) (h0 : 0 < d0) (hd : d0 < 2 ^ 31) : Met l yJ9_floorMod_7cf53 wsJ9_floorMod_7cf53 ({ frames := 0, cells := 0, slots := 0, locals := 0 }) (va_Pc [.int x, .int (nI d0)] (fun _ => True)) (vp_Si (fun rv => rv = zFM x d0)) 0 0 (fun _ => False) := by
  refine zMet_ofW (cc := cJ9_floorMod_7cf53) (maxL := 3) (ret := (some .int)) (by decide +kernel) rfl ?_
  intro pr e s m ag below meth cd s₁ B hml hv
  obtain ⟨rfl, -⟩ := hv
  have hx := B.exec
  have hb := B.bytes
  have hr := B.returns
  have hts := atoms_spec (ws := wsJ9_floorMod_7cf53) B.pre
  have hown : s.vm.findClass RJ9 = some m.cls := findClass_of_methodNamed B.named
  have hlocks := B.notSynchronized
  have hl := lv_entry ([.int x, .int (nI d0)]) (n := 3) (Nat.le_of_ble_eq_true rfl)
  rw [lg_entry_eq]
  generalize (lg_sl ([.int x, .int (nI d0)]) ++ List.replicate (3 - (lg_sl ([.int x, .int (nI d0)])).length) Slot.unset).toArray = ls at hl ⊢
  have hl : lv_has ls 3 [(0, .int x), (1, .int (nI d0))] := hl
  refine lv_iload_n hx hb dJ9_floorMod_7cf53_0 rfl (lv_at hl 0 rfl) ?_
  refine lv_iload_n hx hb dJ9_floorMod_7cf53_1 rfl (lv_at hl 1 rfl) ?_
  refine lv_irem hx hb dJ9_floorMod_7cf53_2 (nI_ne0 h0 hd) ?_
  refine lv_istore_n (lv' := [(2, .int (x - x / (nI d0) * (nI d0))), (0, .int x), (1, .int (nI d0))]) hx hb dJ9_floorMod_7cf53_3 rfl hl (by decide) rfl (fun ls hl => ?_)
  refine lv_iload_n hx hb dJ9_floorMod_7cf53_4 rfl (lv_at hl 1 rfl) ?_
  refine lv_iload_n hx hb dJ9_floorMod_7cf53_5 rfl (lv_at hl 2 rfl) ?_
  refine lv_ixor hx hb dJ9_floorMod_7cf53_6 ?_
  refine lv_if_ge (tgt := 18) hx hb dJ9_floorMod_7cf53_7 (by decide) (fun c_7 => ?_) (fun c_7 => ?_)
  · refine lv_iload_n hx hb dJ9_floorMod_7cf53_18 rfl (lv_at hl 0 rfl) ?_
    exact W.iret (v := (x - x / (nI d0) * (nI d0))) hx hb hr (fun t ht hW => ⟨_, rfl, zFM_1 x h0 hd c_7, ht⟩) (fun _ h9 => nomatch h9) dJ9_floorMod_7cf53_19
  · refine lv_iload_n hx hb dJ9_floorMod_7cf53_10 rfl (lv_at hl 0 rfl) ?_
    refine lv_if_eq (tgt := 18) hx hb dJ9_floorMod_7cf53_11 (by decide) (fun c_11 => ?_) (fun c_11 => ?_)
    · refine lv_iload_n hx hb dJ9_floorMod_7cf53_18 rfl (lv_at hl 0 rfl) ?_
      exact W.iret (v := (x - x / (nI d0) * (nI d0))) hx hb hr (fun t ht hW => ⟨_, rfl, zFM_2 x h0 hd c_11, ht⟩) (fun _ h9 => nomatch h9) dJ9_floorMod_7cf53_19
    · refine lv_iload_n hx hb dJ9_floorMod_7cf53_14 rfl (lv_at hl 0 rfl) ?_
      refine lv_iload_n hx hb dJ9_floorMod_7cf53_15 rfl (lv_at hl 2 rfl) ?_
      refine lv_iadd hx hb dJ9_floorMod_7cf53_16 ?_
      exact W.iret (v := ((x - x / (nI d0) * (nI d0)) + (nI d0))) hx hb hr (fun t ht hW => ⟨_, rfl, zFM_3 x h0 hd c_7 c_11, ht⟩) (fun _ h9 => nomatch h9) dJ9_floorMod_7cf53_17

set_option maxHeartbeats 4000000 in
set_option maxRecDepth 100000 in
theorem c_J9_floorDiv_7cf53 (l : Launch) (x : Int32) (d0 : Nat) (h0 : 0 < d0) (hd : d0 < 2 ^ 31) : Met l yJ9_floorDiv_7cf53 wsJ9_floorDiv_7cf53 ({ frames := 0, cells := 0, slots := 0, locals := 0 }) (va_Pc [.int x, .int (nI d0)] (fun _ => True)) (vp_Si (fun rv => rv = zFD x d0)) 0 0 (fun _ => False) := by
  refine zMet_ofW (cc := cJ9_floorDiv_7cf53) (maxL := 3) (ret := (some .int)) (by decide +kernel) rfl ?_
  intro pr e s m ag below meth cd s₁ B hml hv
  obtain ⟨rfl, -⟩ := hv
  have hx := B.exec
  have hb := B.bytes
  have hr := B.returns
  have hts := atoms_spec (ws := wsJ9_floorDiv_7cf53) B.pre
  have hown : s.vm.findClass RJ9 = some m.cls := findClass_of_methodNamed B.named
  have hlocks := B.notSynchronized
  have hl := lv_entry ([.int x, .int (nI d0)]) (n := 3) (Nat.le_of_ble_eq_true rfl)
  rw [lg_entry_eq]
  generalize (lg_sl ([.int x, .int (nI d0)]) ++ List.replicate (3 - (lg_sl ([.int x, .int (nI d0)])).length) Slot.unset).toArray = ls at hl ⊢
  have hl : lv_has ls 3 [(0, .int x), (1, .int (nI d0))] := hl
  refine lv_iload_n hx hb dJ9_floorDiv_7cf53_0 rfl (lv_at hl 0 rfl) ?_
  refine lv_iload_n hx hb dJ9_floorDiv_7cf53_1 rfl (lv_at hl 1 rfl) ?_
  refine lv_idiv hx hb dJ9_floorDiv_7cf53_2 (nI_ne0 h0 hd) ?_
  refine lv_istore_n (lv' := [(2, .int (x / (nI d0))), (0, .int x), (1, .int (nI d0))]) hx hb dJ9_floorDiv_7cf53_3 rfl hl (by decide) rfl (fun ls hl => ?_)
  refine lv_iload_n hx hb dJ9_floorDiv_7cf53_4 rfl (lv_at hl 1 rfl) ?_
  refine lv_iload_n hx hb dJ9_floorDiv_7cf53_5 rfl (lv_at hl 2 rfl) ?_
  refine lv_ixor hx hb dJ9_floorDiv_7cf53_6 ?_
  refine lv_if_ge (tgt := 21) hx hb dJ9_floorDiv_7cf53_7 (by decide) (fun c_7 => ?_) (fun c_7 => ?_)
  · refine lv_iload_n hx hb dJ9_floorDiv_7cf53_21 rfl (lv_at hl 0 rfl) ?_
    exact W.iret (v := (x / (nI d0))) hx hb hr (fun t ht hW => ⟨_, rfl, zFD_1 x h0 hd c_7, ht⟩) (fun _ h9 => nomatch h9) dJ9_floorDiv_7cf53_22
  · refine lv_iload_n hx hb dJ9_floorDiv_7cf53_10 rfl (lv_at hl 0 rfl) ?_
    refine lv_iload_n hx hb dJ9_floorDiv_7cf53_11 rfl (lv_at hl 2 rfl) ?_
    refine lv_imul hx hb dJ9_floorDiv_7cf53_12 ?_
    refine lv_iload_n hx hb dJ9_floorDiv_7cf53_13 rfl (lv_at hl 1 rfl) ?_
    refine lv_icmp_eq (tgt := 21) hx hb dJ9_floorDiv_7cf53_14 (by decide) (fun c_14 => ?_) (fun c_14 => ?_)
    · refine lv_iload_n hx hb dJ9_floorDiv_7cf53_21 rfl (lv_at hl 0 rfl) ?_
      exact W.iret (v := (x / (nI d0))) hx hb hr (fun t ht hW => ⟨_, rfl, zFD_2 x h0 hd c_14, ht⟩) (fun _ h9 => nomatch h9) dJ9_floorDiv_7cf53_22
    · refine lv_iload_n hx hb dJ9_floorDiv_7cf53_17 rfl (lv_at hl 0 rfl) ?_
      refine lv_iconst (v := 1) hx hb dJ9_floorDiv_7cf53_18 (by decide) ?_
      refine lv_isub hx hb dJ9_floorDiv_7cf53_19 ?_
      exact W.iret (v := ((x / (nI d0)) - 1)) hx hb hr (fun t ht hW => ⟨_, rfl, zFD_3 x h0 hd c_7 c_14, ht⟩) (fun _ h9 => nomatch h9) dJ9_floorDiv_7cf53_20

set_option maxHeartbeats 4000000 in
set_option maxRecDepth 100000 in
theorem c_X0_isChange (l : Launch) (r0 : Int32) (r1 : Int32) : Met l yX0_isChange wsX0_isChange ({ frames := 0, cells := 0, slots := 0, locals := 0 }) (va_Pc [.int r0, .int r1] (fun _ => True)) (vp_Si (fun rv => rv = zb (zChg r0 r1))) 0 0 (fun _ => False) := by
  refine Met.ofW (cc := cX0_isChange) (maxL := 2) (ret := (some .boolean)) (by decide) rfl ?_
  intro pr e s m ag below meth cd s₁ B hml hv
  obtain ⟨rfl, -⟩ := hv
  have hx := B.exec
  have hb := B.bytes
  have hr := B.returns
  have hts := atoms_spec (ws := wsX0_isChange) B.pre
  have hown : s.vm.findClass RX0 = some m.cls := findClass_of_methodNamed B.named
  have hlocks := B.notSynchronized
  have hl := lv_entry ([.int r0, .int r1]) (n := 2) (Nat.le_of_ble_eq_true rfl)
  rw [lg_entry_eq]
  generalize (lg_sl ([.int r0, .int r1]) ++ List.replicate (2 - (lg_sl ([.int r0, .int r1])).length) Slot.unset).toArray = ls at hl ⊢
  have hl : lv_has ls 2 [(0, .int r0), (1, .int r1)] := hl
  refine lv_iload_n hx hb dX0_isChange_0 rfl (lv_at hl 0 rfl) ?_
  refine lv_iconst (v := (-1)) hx hb dX0_isChange_1 (by decide) ?_
  refine lv_icmp_eq (tgt := 14) hx hb dX0_isChange_2 (by decide) (fun c_2 => ?_) (fun c_2 => ?_)
  · refine lv_iconst (v := 0) hx hb dX0_isChange_14 (by decide) ?_
    exact W.zret (v := 0) hx hb hr rfl (fun t ht hW => ⟨_, rfl, (zb_0 (fun q => q.1 c_2)).symm, ht⟩) (fun _ h9 => nomatch h9) dX0_isChange_15
  · refine lv_iload_n hx hb dX0_isChange_5 rfl (lv_at hl 0 rfl) ?_
    refine lv_iload_n hx hb dX0_isChange_6 rfl (lv_at hl 1 rfl) ?_
    refine lv_icmp_eq (tgt := 14) hx hb dX0_isChange_7 (by decide) (fun c_7 => ?_) (fun c_7 => ?_)
    · refine lv_iconst (v := 0) hx hb dX0_isChange_14 (by decide) ?_
      exact W.zret (v := 0) hx hb hr rfl (fun t ht hW => ⟨_, rfl, (zb_0 (fun q => q.2 c_7)).symm, ht⟩) (fun _ h9 => nomatch h9) dX0_isChange_15
    · refine lv_iconst (v := 1) hx hb dX0_isChange_10 (by decide) ?_
      refine lv_goto (tgt := 15) hx hb dX0_isChange_11 (by decide) ?_
      exact W.zret (v := 1) hx hb hr rfl (fun t ht hW => ⟨_, rfl, (zb_1 ⟨c_2, c_7⟩).symm, ht⟩) (fun _ h9 => nomatch h9) dX0_isChange_15

set_option maxHeartbeats 4000000 in
set_option maxRecDepth 100000 in
theorem c_X0_areInOctaves (l : Launch) (r0 : Int32) (r1 : Int32) : Met l yX0_areInOctaves wsX0_areInOctaves ({ frames := 0, cells := 0, slots := 0, locals := 0 }) (va_Pc [.int r0, .int r1] (fun _ => True)) (vp_Si (fun rv => rv = zb (zOct r0 r1))) 0 0 (fun _ => False) := by
  refine Met.ofW (cc := cX0_areInOctaves) (maxL := 2) (ret := (some .boolean)) (by decide) rfl ?_
  intro pr e s m ag below meth cd s₁ B hml hv
  obtain ⟨rfl, -⟩ := hv
  have hx := B.exec
  have hb := B.bytes
  have hr := B.returns
  have hts := atoms_spec (ws := wsX0_areInOctaves) B.pre
  have hown : s.vm.findClass RX0 = some m.cls := findClass_of_methodNamed B.named
  have hlocks := B.notSynchronized
  have hl := lv_entry ([.int r0, .int r1]) (n := 2) (Nat.le_of_ble_eq_true rfl)
  rw [lg_entry_eq]
  generalize (lg_sl ([.int r0, .int r1]) ++ List.replicate (2 - (lg_sl ([.int r0, .int r1])).length) Slot.unset).toArray = ls at hl ⊢
  have hl : lv_has ls 2 [(0, .int r0), (1, .int r1)] := hl
  refine lv_iload_n hx hb dX0_areInOctaves_0 rfl (lv_at hl 0 rfl) ?_
  refine lv_iconst (v := (-1)) hx hb dX0_areInOctaves_1 (by decide) ?_
  refine lv_icmp_eq (tgt := 24) hx hb dX0_areInOctaves_2 (by decide) (fun c_2 => ?_) (fun c_2 => ?_)
  · refine lv_iconst (v := 0) hx hb dX0_areInOctaves_24 (by decide) ?_
    exact W.zret (v := 0) hx hb hr rfl (fun t ht hW => ⟨_, rfl, (zb_0 (fun q => q.1 c_2)).symm, ht⟩) (fun _ h9 => nomatch h9) dX0_areInOctaves_25
  · refine lv_iload_n hx hb dX0_areInOctaves_5 rfl (lv_at hl 1 rfl) ?_
    refine lv_iconst (v := (-1)) hx hb dX0_areInOctaves_6 (by decide) ?_
    refine lv_icmp_eq (tgt := 24) hx hb dX0_areInOctaves_7 (by decide) (fun c_7 => ?_) (fun c_7 => ?_)
    · refine lv_iconst (v := 0) hx hb dX0_areInOctaves_24 (by decide) ?_
      exact W.zret (v := 0) hx hb hr rfl (fun t ht hW => ⟨_, rfl, (zb_0 (fun q => q.2.1 c_7)).symm, ht⟩) (fun _ h9 => nomatch h9) dX0_areInOctaves_25
    · refine lv_iload_n hx hb dX0_areInOctaves_10 rfl (lv_at hl 0 rfl) ?_
      refine lv_iload_n hx hb dX0_areInOctaves_11 rfl (lv_at hl 1 rfl) ?_
      refine lv_isub hx hb dX0_areInOctaves_12 ?_
      refine lv_sipush (v := 1200) hx hb dX0_areInOctaves_13 (by decide) ?_
      refine lv_irem hx hb dX0_areInOctaves_16 (by decide) ?_
      refine lv_if_ne (tgt := 24) hx hb dX0_areInOctaves_17 (by decide) (fun c_17 => ?_) (fun c_17 => ?_)
      · refine lv_iconst (v := 0) hx hb dX0_areInOctaves_24 (by decide) ?_
        exact W.zret (v := 0) hx hb hr rfl (fun t ht hW => ⟨_, rfl, (zb_0 (fun q => c_17 q.2.2)).symm, ht⟩) (fun _ h9 => nomatch h9) dX0_areInOctaves_25
      · refine lv_iconst (v := 1) hx hb dX0_areInOctaves_20 (by decide) ?_
        refine lv_goto (tgt := 25) hx hb dX0_areInOctaves_21 (by decide) ?_
        exact W.zret (v := 1) hx hb hr rfl (fun t ht hW => ⟨_, rfl, (zb_1 ⟨c_2, c_7, c_17⟩).symm, ht⟩) (fun _ h9 => nomatch h9) dX0_areInOctaves_25

set_option maxHeartbeats 4000000 in
set_option maxRecDepth 100000 in
theorem c_X0_nearestSemitone (l : Launch) (p : Int32) (hp : zp p) : Met l yX0_nearestSemitone wsX0_nearestSemitone ({ frames := 1, cells := 0, slots := 0, locals := 22 }) (va_Pc [.int p] (fun _ => True)) (vp_Si (fun rv => rv = nI (zSem p))) 0 0 (fun _ => False) := by
  refine Met.ofW (cc := cX0_nearestSemitone) (maxL := 1) (ret := (some .int)) (by decide) rfl ?_
  intro pr e s m ag below meth cd s₁ B hml hv
  obtain ⟨rfl, -⟩ := hv
  have hx := B.exec
  have hb := B.bytes
  have hr := B.returns
  have hts := atoms_spec (ws := wsX0_nearestSemitone) B.pre
  have hown : s.vm.findClass RX0 = some m.cls := findClass_of_methodNamed B.named
  have hlocks := B.notSynchronized
  have hl := lv_entry ([.int p]) (n := 1) (Nat.le_of_ble_eq_true rfl)
  rw [lg_entry_eq]
  generalize (lg_sl ([.int p]) ++ List.replicate (1 - (lg_sl ([.int p])).length) Slot.unset).toArray = ls at hl ⊢
  have hl : lv_has ls 1 [(0, .int p)] := hl
  refine lv_iload_n hx hb dX0_nearestSemitone_0 rfl (lv_at hl 0 rfl) ?_
  refine lv_bipush (v := 50) hx hb dX0_nearestSemitone_1 (by decide) ?_
  refine lv_iadd hx hb dX0_nearestSemitone_3 ?_
  refine lv_bipush (v := 100) hx hb dX0_nearestSemitone_4 (by decide) ?_
  refine lv_idiv hx hb dX0_nearestSemitone_6 (by decide) ?_
  refine lv_bipush (v := 12) hx hb dX0_nearestSemitone_7 (by decide) ?_
  refine vp_callSi ((va_runS (As := [.int ((p + 50) / 100), .int 12]) (rest := []) ⟨hx, hb, hml, hown, hts⟩ (c_J9_floorMod_7cf53 l ((p + 50) / 100) 12 (by decide) (by decide)) (va_cwS 2 hts gX0_nearestSemitone_J9_floorMod_7cf53 rfl rfl rfl (by decide +kernel) ⟨Nat.le_of_ble_eq_true rfl, Nat.le_of_ble_eq_true rfl⟩) ⟨zT.blind, zT.call⟩ rfl rfl hl.1 rfl (lv_room (Nat.le_of_ble_eq_true rfl)) dX0_nearestSemitone_9 ⟨Nat.zero_le _, Nat.zero_le _⟩).run) (fun r_9 h_9 => ?_)
  have h_9 : r_9 = (zFM ((p + 50) / 100) 12) := h_9
  subst h_9
  rw [show ((zFM ((p + 50) / 100) 12) : Int32) = (nI (zSem p)) from zSem_fm hp]
  exact W.iret (v := (nI (zSem p))) hx hb hr (fun t ht hW => ⟨_, rfl, rfl, ht⟩) (fun _ h9 => nomatch h9) dX0_nearestSemitone_12

set_option maxHeartbeats 4000000 in
set_option maxRecDepth 100000 in
theorem c_X0_stepAbove (l : Launch) (N0 : Nat) (sm : Int32) (md : Nat) (hm : md < 8) : Met l yX0_stepAbove wsX0_stepAbove ({ frames := 1, cells := 0, slots := 0, locals := 22 }) (va_Pc [.int sm, .int (nI md)] (zPe N0)) (vp_Si (fun rv => rv = zSt md (sm.toInt % 12).toNat)) 0 0 (fun _ => False) := by
  refine Met.ofW (cc := cX0_stepAbove) (maxL := 6) (ret := (some .int)) (by decide) rfl ?_
  intro pr e s m ag below meth cd s₁ B hml hv
  obtain ⟨rfl, hN, hE⟩ := hv
  have hx := B.exec
  have hb := B.bytes
  have hr := B.returns
  have hts := atoms_spec (ws := wsX0_stepAbove) B.pre
  have hown : s.vm.findClass RX0 = some m.cls := findClass_of_methodNamed B.named
  have hlocks := B.notSynchronized
  have hS : va_S (zA N0) s.heap s.heap [] := va_S.rf
  obtain ⟨tS, hZ, hT⟩ := id hE.1
  have hl := lv_entry ([.int sm, .int (nI md)]) (n := 6) (Nat.le_of_ble_eq_true rfl)
  rw [lg_entry_eq]
  generalize (lg_sl ([.int sm, .int (nI md)]) ++ List.replicate (6 - (lg_sl ([.int sm, .int (nI md)])).length) Slot.unset).toArray = ls at hl ⊢
  have hl : lv_has ls 6 [(0, .int sm), (1, .int (nI md))] := hl
  have hk : (sm.toInt % 12).toNat < 12 := by
    have h1 := Int.emod_nonneg sm.toInt (show (12 : Int) ≠ 0 by decide)
    have h2 := Int.emod_lt_of_pos sm.toInt (show (0 : Int) < 12 by decide)
    omega
  have loop : ∀ (n : Nat) (i : Nat), i ≤ 7 → 8 ≤ i + n → (∀ j, j < i → ¬ zT md j = (sm.toInt % 12).toNat) → md < 7 → ∀ (ls : Array Slot), lv_has ls 6 [(4, .int (nI i)), (3, .int (nI (zST (md % 7)))), (2, .int (zFM sm 12)), (0, .int sm), (1, .int (nI md))] → W pr l e (headSpec wsX0_stepAbove ({ frames := 1, cells := 0, slots := 0, locals := 22 })).room s m ([.int sm, .int (nI md)] : List Value).toArray below meth cd s.heap [] 0 0 (MQ below (vp_Si (fun rv => rv = zSt md (sm.toInt % 12).toNat)) ([.int sm, .int (nI md)] : List Value).toArray s 0 0 (fun _ => False)) (F0 m 31 ls []) := by
    intro n
    induction n with
    | zero =>
      intro i hi hn hv hm7
      omega
    | succ n ih =>
      intro i hi hn hv hm7 ls hl
      refine lv_iload hx hb dX0_stepAbove_31 (lv_at hl 0 rfl) ?_
      refine va_gets (C := "TunedWrens") (n := "STEPS") (d := "[I") hx hb hZ hS hown (hts (.fieldLink RX0 135 "TunedWrens" "STEPS" "[I") (by decide +kernel)) (fun _ h9 => h9) dX0_stepAbove_33 ?_
      refine va_tlen hx hb hT hS (v := 7) rfl dX0_stepAbove_36 ?_
      refine lv_icmp_ge (tgt := 79) hx hb dX0_stepAbove_37 (by decide) (fun c_37 => ?_) (fun c_37 => ?_)
      · have hi7 : i = 7 := by have := (nI_leI (a := 7) (by decide) (by omega)).mp c_37; omega
        refine lv_iconst (v := (-1)) hx hb dX0_stepAbove_79 (by decide) ?_
        exact W.iret (v := (-1)) hx hb hr (fun t ht hW => ⟨_, rfl, (zSt_out md hm7 _ hk (fun j hj => hv j (by omega))).symm, ht⟩) (fun _ h9 => nomatch h9) dX0_stepAbove_80
      · have hi7 : i < 7 := by
          rcases Nat.lt_or_ge i 7 with q | q
          · exact q
          · exact absurd ((nI_leI (a := 7) (by decide) (by omega)).mpr q) c_37
        refine va_gets (C := "TunedWrens") (n := "STEPS") (d := "[I") hx hb hZ hS hown (hts (.fieldLink RX0 135 "TunedWrens" "STEPS" "[I") (by decide +kernel)) (fun _ h9 => h9) dX0_stepAbove_40 ?_
        refine lv_iload_n hx hb dX0_stepAbove_43 rfl (lv_at hl 4 rfl) ?_
        refine lv_iload hx hb dX0_stepAbove_44 (lv_at hl 0 rfl) ?_
        refine lv_iadd hx hb dX0_stepAbove_46 ?_
        rw [show (((nI md) + (nI i)) : Int32) = (nI (md + i)) from nI_add md i]
        refine va_gets (C := "TunedWrens") (n := "STEPS") (d := "[I") hx hb hZ hS hown (hts (.fieldLink RX0 135 "TunedWrens" "STEPS" "[I") (by decide +kernel)) (fun _ h9 => h9) dX0_stepAbove_47 ?_
        refine va_tlen hx hb hT hS (v := 7) rfl dX0_stepAbove_50 ?_
        refine vp_callSi ((va_runS (As := [.int (nI (md + i)), .int 7]) (rest := [.ref tS]) ⟨hx, hb, hml, hown, hts⟩ (c_J9_floorMod_7cf53 l (nI (md + i)) 7 (by decide) (by decide)) (va_cwS 2 hts gX0_stepAbove_J9_floorMod_7cf53 rfl rfl rfl (by decide +kernel) ⟨Nat.le_of_ble_eq_true rfl, Nat.le_of_ble_eq_true rfl⟩) ⟨zT.blind, zT.call⟩ rfl rfl hl.1 rfl (lv_room (Nat.le_of_ble_eq_true rfl)) dX0_stepAbove_51 ⟨Nat.zero_le _, Nat.zero_le _⟩).run) (fun r_51 h_51 => ?_)
        have h_51 : r_51 = (zFM (nI (md + i)) 7) := h_51
        subst h_51
        rw [show ((zFM (nI (md + i)) 7) : Int32) = (nI ((md + i) % 7)) from zFM_nI (by omega)]
        refine va_ti hx hb hT hS (vp_in_nI (Nat.mod_lt _ (by decide)) (by decide)) (v := .int (nI (zST ((md + i) % 7)))) (by rw [nI_clamp (by have := Nat.mod_lt (md + i) (show 7 > 0 by decide); omega)]) dX0_stepAbove_54 ?_
        refine lv_istore (lv' := [(5, .int (nI (zST ((md + i) % 7)))), (4, .int (nI i)), (3, .int (nI (zST (md % 7)))), (2, .int (zFM sm 12)), (0, .int sm), (1, .int (nI md))]) hx hb dX0_stepAbove_55 hl (by decide) rfl (fun ls hl => ?_)
        refine lv_iload hx hb dX0_stepAbove_57 (lv_at hl 0 rfl) ?_
        refine lv_iload_n hx hb dX0_stepAbove_59 rfl (lv_at hl 2 rfl) ?_
        refine lv_isub hx hb dX0_stepAbove_60 ?_
        refine lv_bipush (v := 12) hx hb dX0_stepAbove_61 (by decide) ?_
        refine vp_callSi ((va_runS (As := [.int ((nI (zST ((md + i) % 7))) - (nI (zST (md % 7)))), .int 12]) (rest := []) ⟨hx, hb, hml, hown, hts⟩ (c_J9_floorMod_7cf53 l ((nI (zST ((md + i) % 7))) - (nI (zST (md % 7)))) 12 (by decide) (by decide)) (va_cwS 2 hts gX0_stepAbove_J9_floorMod_7cf53 rfl rfl rfl (by decide +kernel) ⟨Nat.le_of_ble_eq_true rfl, Nat.le_of_ble_eq_true rfl⟩) ⟨zT.blind, zT.call⟩ rfl rfl hl.1 rfl (lv_room (Nat.le_of_ble_eq_true rfl)) dX0_stepAbove_63 ⟨Nat.zero_le _, Nat.zero_le _⟩).run) (fun r_63 h_63 => ?_)
        have h_63 : r_63 = (zFM ((nI (zST ((md + i) % 7))) - (nI (zST (md % 7)))) 12) := h_63
        subst h_63
        rw [show ((zFM ((nI (zST ((md + i) % 7))) - (nI (zST (md % 7)))) 12) : Int32) = (nI (zT md i)) from zST_d md hm7 i hi7]
        refine lv_iload_n hx hb dX0_stepAbove_66 rfl (lv_at hl 3 rfl) ?_
        refine lv_icmp_ne (tgt := 73) hx hb dX0_stepAbove_67 (by decide) (fun c_67 => ?_) (fun c_67 => ?_)
        · refine lv_iinc (v := (nI (i + 1))) (lv' := [(4, .int (nI (i + 1))), (5, .int (nI (zST ((md + i) % 7)))), (3, .int (nI (zST (md % 7)))), (2, .int (zFM sm 12)), (0, .int sm), (1, .int (nI md))]) hx hb dX0_stepAbove_73 hl (k := 1) rfl (z_inc i 1) (by decide) rfl (fun ls hl => ?_)
          refine lv_goto (tgt := 31) hx hb dX0_stepAbove_76 (by decide) ?_
          exact ih (i + 1) (by omega) (by omega) (fun j hj => (Nat.lt_or_ge j i).elim (fun q => hv j q) (fun q => by rw [show j = i by omega]; exact fun e => c_67 (by rw [e]; rfl))) hm7 ls (lv_sub hl [0, 2, 3, 4, 5] rfl)
        · have hk2 : zT md i = (sm.toInt % 12).toNat := z_lit (by have := zT_lt md hm7 i hi7; omega) (by omega) c_67
          refine lv_iload hx hb dX0_stepAbove_70 (lv_at hl 1 rfl) ?_
          exact W.iret (v := (nI i)) hx hb hr (fun t ht hW => ⟨_, rfl, by rw [← hk2]; exact (zSt_in md hm7 i hi7).symm, ht⟩) (fun _ h9 => nomatch h9) dX0_stepAbove_72
  refine lv_iload_n hx hb dX0_stepAbove_0 rfl (lv_at hl 0 rfl) ?_
  refine lv_bipush (v := 12) hx hb dX0_stepAbove_1 (by decide) ?_
  refine vp_callSi ((va_runS (As := [.int sm, .int 12]) (rest := []) ⟨hx, hb, hml, hown, hts⟩ (c_J9_floorMod_7cf53 l sm 12 (by decide) (by decide)) (va_cwS 2 hts gX0_stepAbove_J9_floorMod_7cf53 rfl rfl rfl (by decide +kernel) ⟨Nat.le_of_ble_eq_true rfl, Nat.le_of_ble_eq_true rfl⟩) ⟨zT.blind, zT.call⟩ rfl rfl hl.1 rfl (lv_room (Nat.le_of_ble_eq_true rfl)) dX0_stepAbove_3 ⟨Nat.zero_le _, Nat.zero_le _⟩).run) (fun r_3 h_3 => ?_)
  have h_3 : r_3 = (zFM sm 12) := h_3
  subst h_3
  refine lv_istore_n (lv' := [(2, .int (zFM sm 12)), (0, .int sm), (1, .int (nI md))]) hx hb dX0_stepAbove_6 rfl hl (by decide) rfl (fun ls hl => ?_)
  refine lv_iload_n hx hb dX0_stepAbove_7 rfl (lv_at hl 2 rfl) ?_
  refine lv_bipush (v := 7) hx hb dX0_stepAbove_8 (by decide) ?_
  refine lv_icmp_ne (tgt := 15) hx hb dX0_stepAbove_10 (by decide) (fun c_10 => ?_) (fun c_10 => ?_)
  · have hm7 : md < 7 := by
      rcases Nat.lt_or_ge md 7 with q | q
      · exact q
      · exact absurd (by rw [show md = 7 by omega]; rfl) c_10
    refine va_gets (C := "TunedWrens") (n := "STEPS") (d := "[I") hx hb hZ hS hown (hts (.fieldLink RX0 135 "TunedWrens" "STEPS" "[I") (by decide +kernel)) (fun _ h9 => h9) dX0_stepAbove_15 ?_
    refine lv_iload_n hx hb dX0_stepAbove_18 rfl (lv_at hl 2 rfl) ?_
    refine va_gets (C := "TunedWrens") (n := "STEPS") (d := "[I") hx hb hZ hS hown (hts (.fieldLink RX0 135 "TunedWrens" "STEPS" "[I") (by decide +kernel)) (fun _ h9 => h9) dX0_stepAbove_19 ?_
    refine va_tlen hx hb hT hS (v := 7) rfl dX0_stepAbove_22 ?_
    refine vp_callSi ((va_runS (As := [.int (nI md), .int 7]) (rest := [.ref tS]) ⟨hx, hb, hml, hown, hts⟩ (c_J9_floorMod_7cf53 l (nI md) 7 (by decide) (by decide)) (va_cwS 2 hts gX0_stepAbove_J9_floorMod_7cf53 rfl rfl rfl (by decide +kernel) ⟨Nat.le_of_ble_eq_true rfl, Nat.le_of_ble_eq_true rfl⟩) ⟨zT.blind, zT.call⟩ rfl rfl hl.1 rfl (lv_room (Nat.le_of_ble_eq_true rfl)) dX0_stepAbove_23 ⟨Nat.zero_le _, Nat.zero_le _⟩).run) (fun r_23 h_23 => ?_)
    have h_23 : r_23 = (zFM (nI md) 7) := h_23
    subst h_23
    rw [show ((zFM (nI md) 7) : Int32) = (nI (md % 7)) from zFM_nI (by omega)]
    refine va_ti hx hb hT hS (vp_in_nI (Nat.mod_lt _ (by decide)) (by decide)) (v := .int (nI (zST (md % 7)))) (by rw [nI_clamp (by have := Nat.mod_lt md (show 7 > 0 by decide); omega)]) dX0_stepAbove_26 ?_
    refine lv_istore_n (lv' := [(3, .int (nI (zST (md % 7)))), (2, .int (zFM sm 12)), (0, .int sm), (1, .int (nI md))]) hx hb dX0_stepAbove_27 rfl hl (by decide) rfl (fun ls hl => ?_)
    refine lv_iconst (v := 0) hx hb dX0_stepAbove_28 (by decide) ?_
    refine lv_istore (lv' := [(4, .int 0), (3, .int (nI (zST (md % 7)))), (2, .int (zFM sm 12)), (0, .int sm), (1, .int (nI md))]) hx hb dX0_stepAbove_29 hl (by decide) rfl (fun ls hl => ?_)
    exact loop 8 0 (by decide) (by decide) (fun j hj => absurd hj (Nat.not_lt_zero j)) hm7 ls (lv_sub hl [0, 1, 2, 3, 4] rfl)
  · have hm7 : md = 7 := z_lit (by omega) (by decide) c_10
    refine lv_iload_n hx hb dX0_stepAbove_13 rfl (lv_at hl 0 rfl) ?_
    exact W.iret (v := (zFM sm 12)) hx hb hr (fun t ht hW => ⟨_, rfl, by rw [hm7]; exact (zSt_7 _ hk).symm, ht⟩) (fun _ h9 => nomatch h9) dX0_stepAbove_14

set_option maxHeartbeats 4000000 in
set_option maxRecDepth 100000 in
theorem c_X0_stepAt (l : Launch) (D : va_G) (N0 : Nat) (cA cL : ClassId) (E : va_W) (h : Nat) (d : Nat → Nat) (z : S7) (c : C5) (p : Int32) (hc : okC c) : Met l yX0_stepAt wsX0_stepAt ({ frames := 2, cells := 0, slots := 0, locals := 47 }) (va_Pc [.ref h, .int p] (zPre D N0 cA cL (wX h d cA z c ++ E))) (vp_Si (fun rv => rv = zStep c p)) 0 0 (fun _ => False) := by
  refine Met.ofW (cc := cX0_stepAt) (maxL := 2) (ret := (some .int)) (by decide) rfl ?_
  intro pr e s m ag below meth cd s₁ B hml hv
  obtain ⟨rfl, hN, hP, hD, hK, hE⟩ := hv
  have hx := B.exec
  have hb := B.bytes
  have hr := B.returns
  have hts := atoms_spec (ws := wsX0_stepAt) B.pre
  have hown : s.vm.findClass RX0 = some m.cls := findClass_of_methodNamed B.named
  have hlocks := B.notSynchronized
  have hS : va_S (zA N0) s.heap s.heap [] := va_S.rf
  have hiw : ∀ w ∈ u_ws RX0 TX0 12, w ∈ wsX0_stepAt := by decide +kernel
  have hl := lv_entry ([.ref h, .int p]) (n := 2) (Nat.le_of_ble_eq_true rfl)
  rw [lg_entry_eq]
  generalize (lg_sl ([.ref h, .int p]) ++ List.replicate (2 - (lg_sl ([.ref h, .int p])).length) Slot.unset).toArray = ls at hl ⊢
  have hl : lv_has ls 2 [(0, .ref h), (1, .int p)] := hl
  refine lv_iload_n hx hb dX0_stepAt_0 rfl (lv_at hl 1 rfl) ?_
  refine lv_if_lt (tgt := 18) hx hb dX0_stepAt_1 (by decide) (fun c_1 => ?_) (fun c_1 => ?_)
  · refine lv_iconst (v := (-1)) hx hb dX0_stepAt_18 (by decide) ?_
    exact W.iret (v := (-1)) hx hb hr (fun t ht hW => ⟨_, rfl, (zStep_1 (fun q => Int32.not_le.mpr c_1 q.1)).symm, ht⟩) (fun _ h9 => nomatch h9) dX0_stepAt_19
  · refine lv_iload_n hx hb dX0_stepAt_4 rfl (lv_at hl 1 rfl) ?_
    refine lv_sipush (v := 12000) hx hb dX0_stepAt_5 (by decide) ?_
    refine lv_icmp_gt (tgt := 18) hx hb dX0_stepAt_8 (by decide) (fun c_8 => ?_) (fun c_8 => ?_)
    · refine lv_iconst (v := (-1)) hx hb dX0_stepAt_18 (by decide) ?_
      exact W.iret (v := (-1)) hx hb hr (fun t ht hW => ⟨_, rfl, (zStep_1 (fun q => Int32.not_le.mpr c_8 q.2.1)).symm, ht⟩) (fun _ h9 => nomatch h9) dX0_stepAt_19
    · refine lv_iload_n hx hb dX0_stepAt_11 rfl (lv_at hl 1 rfl) ?_
      refine lv_bipush (v := 100) hx hb dX0_stepAt_12 (by decide) ?_
      refine lv_irem hx hb dX0_stepAt_14 (by decide) ?_
      refine lv_if_eq (tgt := 20) hx hb dX0_stepAt_15 (by decide) (fun c_15 => ?_) (fun c_15 => ?_)
      · refine lv_iload_n hx hb dX0_stepAt_20 rfl (lv_at hl 1 rfl) ?_
        refine lv_bipush (v := 100) hx hb dX0_stepAt_21 (by decide) ?_
        refine lv_idiv hx hb dX0_stepAt_23 (by decide) ?_
        refine lv_aload_n hx hb dX0_stepAt_24 rfl (lv_at hl 0 rfl) ?_
        refine va_get (D := D) (ci := 0) (v := .int (nI c.1)) (C := RX0) (T := TX0) (N := 12) hx hb hts hiw hown hK hP 0 rfl rfl 7 (by decide) (hts (.fieldLink RX0 31 "TunedWrens" "scaleKey" "I") (by decide +kernel)) (fun _ h9 => h9) rfl dX0_stepAt_25 ?_
        refine lv_isub hx hb dX0_stepAt_28 ?_
        refine lv_aload_n hx hb dX0_stepAt_29 rfl (lv_at hl 0 rfl) ?_
        refine va_get (D := D) (ci := 0) (v := .int (nI c.2.1)) (C := RX0) (T := TX0) (N := 12) hx hb hts hiw hown hK hP 0 rfl rfl 8 (by decide) (hts (.fieldLink RX0 35 "TunedWrens" "scaleMode" "I") (by decide +kernel)) (fun _ h9 => h9) rfl dX0_stepAt_30 ?_
        refine vp_callSi ((va_runS (As := [.int ((p / 100) - (nI c.1)), .int (nI c.2.1)]) (rest := []) ⟨hx, hb, hml, hown, hts⟩ (c_X0_stepAbove l N0 ((p / 100) - (nI c.1)) c.2.1 hc.2.1) (va_cwS 2 hts gX0_stepAt_X0_stepAbove rfl rfl rfl (by decide +kernel) ⟨Nat.le_of_ble_eq_true rfl, Nat.le_of_ble_eq_true rfl⟩) ⟨zPe.blind, zPe.call hN hE hS⟩ rfl rfl hl.1 rfl (lv_room (Nat.le_of_ble_eq_true rfl)) dX0_stepAt_33 ⟨Nat.zero_le _, Nat.zero_le _⟩).run) (fun r_33 h_33 => ?_)
        have h_33 : r_33 = (zSt c.2.1 (((p / 100) - (nI c.1)).toInt % 12).toNat) := h_33
        subst h_33
        exact W.iret (v := (zSt c.2.1 (((p / 100) - (nI c.1)).toInt % 12).toNat)) hx hb hr (fun t ht hW => ⟨_, rfl, zStep_X hc ⟨Int32.not_lt.mp c_1, Int32.not_lt.mp c_8, c_15⟩, ht⟩) (fun _ h9 => nomatch h9) dX0_stepAt_36
      · refine lv_iconst (v := (-1)) hx hb dX0_stepAt_18 (by decide) ?_
        exact W.iret (v := (-1)) hx hb hr (fun t ht hW => ⟨_, rfl, (zStep_1 (fun q => c_15 q.2.2)).symm, ht⟩) (fun _ h9 => nomatch h9) dX0_stepAt_19

set_option maxHeartbeats 4000000 in
set_option maxRecDepth 100000 in
theorem c_X0_isRung (l : Launch) (D : va_G) (N0 : Nat) (cA cL : ClassId) (E : va_W) (h : Nat) (d : Nat → Nat) (z : S7) (c : C5) (p : Int32) (hc : okC c) : Met l yX0_isRung wsX0_isRung ({ frames := 3, cells := 0, slots := 0, locals := 68 }) (va_Pc [.ref h, .int p] (zPre D N0 cA cL (wX h d cA z c ++ E))) (vp_Si (fun rv => rv = zb (¬ zStep c p = -1))) 0 0 (fun _ => False) := by
  refine Met.ofW (cc := cX0_isRung) (maxL := 2) (ret := (some .boolean)) (by decide) rfl ?_
  intro pr e s m ag below meth cd s₁ B hml hv
  obtain ⟨rfl, hN, hP, hD, hK, hE⟩ := hv
  have hx := B.exec
  have hb := B.bytes
  have hr := B.returns
  have hts := atoms_spec (ws := wsX0_isRung) B.pre
  have hown : s.vm.findClass RX0 = some m.cls := findClass_of_methodNamed B.named
  have hlocks := B.notSynchronized
  have hS : va_S (zA N0) s.heap s.heap [] := va_S.rf
  have hl := lv_entry ([.ref h, .int p]) (n := 2) (Nat.le_of_ble_eq_true rfl)
  rw [lg_entry_eq]
  generalize (lg_sl ([.ref h, .int p]) ++ List.replicate (2 - (lg_sl ([.ref h, .int p])).length) Slot.unset).toArray = ls at hl ⊢
  have hl : lv_has ls 2 [(0, .ref h), (1, .int p)] := hl
  refine lv_aload_n hx hb dX0_isRung_0 rfl (lv_at hl 0 rfl) ?_
  refine lv_iload_n hx hb dX0_isRung_1 rfl (lv_at hl 1 rfl) ?_
  refine vp_callSi ((va_runV (As := [.int p]) (rest := []) ⟨hx, hb, hml, hown, hts⟩ (c_X0_stepAt l D N0 cA cL E h d z c p hc) (cwV 1 hts gX0_isRung_X0_stepAt rfl rfl rfl (by decide +kernel) ⟨Nat.le_of_ble_eq_true rfl, Nat.le_of_ble_eq_true rfl⟩) ⟨zPre.blind, va_recv hK hP (ci := 0) (q0 := 0) rfl rfl, zPre.call hN hP hD hK hE hS⟩ rfl rfl hl.1 rfl (lv_room (Nat.le_of_ble_eq_true rfl)) dX0_isRung_2 ⟨Nat.zero_le _, Nat.zero_le _⟩).run) (fun r_2 h_2 => ?_)
  have h_2 : r_2 = (zStep c p) := h_2
  subst h_2
  refine lv_iconst (v := (-1)) hx hb dX0_isRung_5 (by decide) ?_
  refine lv_icmp_eq (tgt := 13) hx hb dX0_isRung_6 (by decide) (fun c_6 => ?_) (fun c_6 => ?_)
  · refine lv_iconst (v := 0) hx hb dX0_isRung_13 (by decide) ?_
    exact W.zret (v := 0) hx hb hr rfl (fun t ht hW => ⟨_, rfl, (zb_0 (fun q => q c_6)).symm, ht⟩) (fun _ h9 => nomatch h9) dX0_isRung_14
  · refine lv_iconst (v := 1) hx hb dX0_isRung_9 (by decide) ?_
    refine lv_goto (tgt := 14) hx hb dX0_isRung_10 (by decide) ?_
    exact W.zret (v := 1) hx hb hr rfl (fun t ht hW => ⟨_, rfl, (zb_1 c_6).symm, ht⟩) (fun _ h9 => nomatch h9) dX0_isRung_14
