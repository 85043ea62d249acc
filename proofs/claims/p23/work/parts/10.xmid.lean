theorem zNext_k {c : C5} {r p : Int32} (h : ¬ r = -1 ∧ zAbs (p - r) ≤ c.2.2.2.1) : r = zNext c r p := (if_pos h).symm
theorem zNext_n {c : C5} {r p : Int32} (h : ¬ (¬ r = -1 ∧ zAbs (p - r) ≤ c.2.2.2.1)) : zNear c p = zNext c r p := (if_neg h).symm
theorem zNud_l {c : C5} {r0 n0 r p : Int32} (h : zLeap c r0 r) : 0 = zNud c r0 n0 r p := (if_pos h).symm
theorem zNud_n {c : C5} {r0 n0 r p : Int32} (h : ¬ zLeap c r0 r) : zTow c.2.2.1 n0 (r - p) = zNud c r0 n0 r p := (if_neg h).symm

set_option maxHeartbeats 4000000 in
set_option maxRecDepth 100000 in
theorem c_X0_requireRange_v (l : Launch) (v : Int32) (a : Int32) (b : Int32) (hv : a ≤ v ∧ v ≤ b) : Met l yX0_requireRange wsX0_requireRange ({ frames := 0, cells := 0, slots := 0, locals := 0 }) (va_Pc [.int v, .int a, .int b] (fun _ => True)) (va_Sv (fun _ => True)) 0 0 (fun _ => False) := by
  refine Met.ofW (cc := cX0_requireRange) (maxL := 3) (ret := none) (by decide) rfl ?_
  intro pr e s m ag below meth cd s₁ B hml hv
  obtain ⟨rfl, -⟩ := hv
  have hx := B.exec
  have hb := B.bytes
  have hr := B.returns
  have hts := atoms_spec (ws := wsX0_requireRange) B.pre
  have hown : s.vm.findClass RX0 = some m.cls := findClass_of_methodNamed B.named
  have hlocks := B.notSynchronized
  have hl := lv_entry ([.int v, .int a, .int b]) (n := 3) (Nat.le_of_ble_eq_true rfl)
  rw [lg_entry_eq]
  generalize (lg_sl ([.int v, .int a, .int b]) ++ List.replicate (3 - (lg_sl ([.int v, .int a, .int b])).length) Slot.unset).toArray = ls at hl ⊢
  have hl : lv_has ls 3 [(0, .int v), (1, .int a), (2, .int b)] := hl
  refine lv_iload_n hx hb dX0_requireRange_0 rfl (lv_at hl 0 rfl) ?_
  refine lv_iload_n hx hb dX0_requireRange_1 rfl (lv_at hl 1 rfl) ?_
  refine lv_icmp_lt (tgt := 10) hx hb dX0_requireRange_2 (by decide) (fun c_2 => ?_) (fun c_2 => ?_)
  · exact absurd c_2 (Int32.not_lt.mpr hv.1)
  · refine lv_iload_n hx hb dX0_requireRange_5 rfl (lv_at hl 0 rfl) ?_
    refine lv_iload_n hx hb dX0_requireRange_6 rfl (lv_at hl 2 rfl) ?_
    refine lv_icmp_le (tgt := 20) hx hb dX0_requireRange_7 (by decide) (fun c_7 => ?_) (fun c_7 => ?_)
    · exact W.vret hx hb hr (fun t ht hW => ⟨rfl, trivial, ht⟩) (fun _ h9 => nomatch h9) dX0_requireRange_20
    · exact absurd hv.2 c_7

set_option maxHeartbeats 4000000 in
set_option maxRecDepth 100000 in
theorem c_X0_requireWren_v (l : Launch) (w : Int32) (hw : zw w) : Met l yX0_requireWren wsX0_requireWren ({ frames := 0, cells := 0, slots := 0, locals := 0 }) (va_Pc [.int w] (fun _ => True)) (va_Sv (fun _ => True)) 0 0 (fun _ => False) := by
  refine Met.ofW (cc := cX0_requireWren) (maxL := 1) (ret := none) (by decide) rfl ?_
  intro pr e s m ag below meth cd s₁ B hml hv
  obtain ⟨rfl, -⟩ := hv
  have hx := B.exec
  have hb := B.bytes
  have hr := B.returns
  have hts := atoms_spec (ws := wsX0_requireWren) B.pre
  have hown : s.vm.findClass RX0 = some m.cls := findClass_of_methodNamed B.named
  have hlocks := B.notSynchronized
  have hl := lv_entry ([.int w]) (n := 1) (Nat.le_of_ble_eq_true rfl)
  rw [lg_entry_eq]
  generalize (lg_sl ([.int w]) ++ List.replicate (1 - (lg_sl ([.int w])).length) Slot.unset).toArray = ls at hl ⊢
  have hl : lv_has ls 1 [(0, .int w)] := hl
  refine lv_iload_n hx hb dX0_requireWren_0 rfl (lv_at hl 0 rfl) ?_
  refine lv_if_lt (tgt := 9) hx hb dX0_requireWren_1 (by decide) (fun c_1 => ?_) (fun c_1 => ?_)
  · exact absurd c_1 (Int32.not_lt.mpr hw.1)
  · refine lv_iload_n hx hb dX0_requireWren_4 rfl (lv_at hl 0 rfl) ?_
    refine lv_iconst (v := 4) hx hb dX0_requireWren_5 (by decide) ?_
    refine lv_icmp_lt (tgt := 19) hx hb dX0_requireWren_6 (by decide) (fun c_6 => ?_) (fun c_6 => ?_)
    · exact W.vret hx hb hr (fun t ht hW => ⟨rfl, trivial, ht⟩) (fun _ h9 => nomatch h9) dX0_requireWren_19
    · exact absurd (zw_lt hw) c_6

set_option maxHeartbeats 4000000 in
set_option maxRecDepth 100000 in
theorem c_X0_requirePitch_v (l : Launch) (p : Int32) (hp : zp p) : Met l yX0_requirePitch wsX0_requirePitch ({ frames := 1, cells := 0, slots := 0, locals := 22 }) (va_Pc [.int p] (fun _ => True)) (va_Sv (fun _ => True)) 0 0 (fun _ => False) := by
  refine Met.ofW (cc := cX0_requirePitch) (maxL := 1) (ret := none) (by decide) rfl ?_
  intro pr e s m ag below meth cd s₁ B hml hv
  obtain ⟨rfl, -⟩ := hv
  have hx := B.exec
  have hb := B.bytes
  have hr := B.returns
  have hts := atoms_spec (ws := wsX0_requirePitch) B.pre
  have hown : s.vm.findClass RX0 = some m.cls := findClass_of_methodNamed B.named
  have hlocks := B.notSynchronized
  have hl := lv_entry ([.int p]) (n := 1) (Nat.le_of_ble_eq_true rfl)
  rw [lg_entry_eq]
  generalize (lg_sl ([.int p]) ++ List.replicate (1 - (lg_sl ([.int p])).length) Slot.unset).toArray = ls at hl ⊢
  have hl : lv_has ls 1 [(0, .int p)] := hl
  refine lv_iload_n hx hb dX0_requirePitch_0 rfl (lv_at hl 0 rfl) ?_
  refine lv_iconst (v := 0) hx hb dX0_requirePitch_1 (by decide) ?_
  refine lv_sipush (v := 12000) hx hb dX0_requirePitch_2 (by decide) ?_
  refine va_csv ((va_runS (As := [.int p, .int 0, .int 12000]) (rest := []) ⟨hx, hb, hml, hown, hts⟩ (c_X0_requireRange_v l p 0 12000 hp) (va_cwS 3 hts gX0_requirePitch_X0_requireRange rfl rfl rfl (by decide +kernel) ⟨Nat.le_of_ble_eq_true rfl, Nat.le_of_ble_eq_true rfl⟩) ⟨zT.blind, zT.call⟩ rfl rfl hl.1 rfl (lv_room (Nat.le_of_ble_eq_true rfl)) dX0_requirePitch_5 ⟨Nat.zero_le _, Nat.zero_le _⟩).run) (fun _ => ?_)
  exact W.vret hx hb hr (fun t ht hW => ⟨rfl, trivial, ht⟩) (fun _ h9 => nomatch h9) dX0_requirePitch_8

set_option maxHeartbeats 4000000 in
set_option maxRecDepth 100000 in
theorem c_X0_rungNotAbove (l : Launch) (D : va_G) (N0 : Nat) (cA cL : ClassId) (E : va_W) (h : Nat) (d : Nat → Nat) (z : S7) (c : C5) (p : Int32) (hc : okC c) (hp : zp p) : Met l yX0_rungNotAbove wsX0_rungNotAbove ({ frames := 3, cells := 0, slots := 0, locals := 68 }) (va_Pc [.ref h, .int p] (zPre D N0 cA cL (wX h d cA z c ++ E))) (vp_Si (fun rv => rv = zBel c p)) 0 0 (fun _ => False) := by
  refine Met.ofW (cc := cX0_rungNotAbove) (maxL := 3) (ret := (some .int)) (by decide) rfl ?_
  intro pr e s m ag below meth cd s₁ B hml hv
  obtain ⟨rfl, hN, hP, hD, hK, hE⟩ := hv
  have hx := B.exec
  have hb := B.bytes
  have hr := B.returns
  have hts := atoms_spec (ws := wsX0_rungNotAbove) B.pre
  have hown : s.vm.findClass RX0 = some m.cls := findClass_of_methodNamed B.named
  have hlocks := B.notSynchronized
  have hS : va_S (zA N0) s.heap s.heap [] := va_S.rf
  have hl := lv_entry ([.ref h, .int p]) (n := 3) (Nat.le_of_ble_eq_true rfl)
  rw [lg_entry_eq]
  generalize (lg_sl ([.ref h, .int p]) ++ List.replicate (3 - (lg_sl ([.ref h, .int p])).length) Slot.unset).toArray = ls at hl ⊢
  have hl : lv_has ls 3 [(0, .ref h), (1, .int p)] := hl
  have hpn := zp_n hp
  have loop : ∀ (n : Nat) (k : Nat), k ≤ 121 → k < n → zBelN c k = zBel c p → ∀ (ls : Array Slot), lv_has ls 3 [(2, .int (nI (100 * k) - 100)), (0, .ref h), (1, .int p)] → W pr l e (headSpec wsX0_rungNotAbove ({ frames := 3, cells := 0, slots := 0, locals := 68 })).room s m ([.ref h, .int p] : List Value).toArray below meth cd s.heap [] 0 0 (MQ below (vp_Si (fun rv => rv = zBel c p)) ([.ref h, .int p] : List Value).toArray s 0 0 (fun _ => False)) (F0 m 7 ls []) := by
    intro n
    induction n with
    | zero =>
      intro k hk hn he
      omega
    | succ n ih =>
      intro k hk hn he ls hl
      refine lv_iload_n hx hb dX0_rungNotAbove_7 rfl (lv_at hl 0 rfl) ?_
      refine lv_if_lt (tgt := 28) hx hb dX0_rungNotAbove_8 (by decide) (fun c_8 => ?_) (fun c_8 => ?_)
      · have k0 : k = 0 := (zv_neg hk).mp c_8
        subst k0
        refine lv_iconst (v := (-1)) hx hb dX0_rungNotAbove_28 (by decide) ?_
        exact W.iret (v := (-1)) hx hb hr (fun t ht hW => ⟨_, rfl, he, ht⟩) (fun _ h9 => nomatch h9) dX0_rungNotAbove_29
      · obtain ⟨j, rfl⟩ : ∃ j, k = j + 1 := ⟨k - 1, by have : ¬ k = 0 := fun q => c_8 ((zv_neg hk).mpr q); omega⟩
        rw [zv_s j] at hl
        refine lv_aload_n hx hb dX0_rungNotAbove_11 rfl (lv_at hl 1 rfl) ?_
        refine lv_iload_n hx hb dX0_rungNotAbove_12 rfl (lv_at hl 0 rfl) ?_
        refine vp_callSi ((va_runV (As := [.int (nI (100 * j))]) (rest := []) ⟨hx, hb, hml, hown, hts⟩ (c_X0_stepAt l D N0 cA cL E h d z c (nI (100 * j)) hc) (cwV 1 hts gX0_rungNotAbove_X0_stepAt rfl rfl rfl (by decide +kernel) ⟨Nat.le_of_ble_eq_true rfl, Nat.le_of_ble_eq_true rfl⟩) ⟨zPre.blind, va_recv hK hP (ci := 0) (q0 := 0) rfl rfl, zPre.call hN hP hD hK hE hS⟩ rfl rfl hl.1 rfl (lv_room (Nat.le_of_ble_eq_true rfl)) dX0_rungNotAbove_13 ⟨Nat.zero_le _, Nat.zero_le _⟩).run) (fun r_13 h_13 => ?_)
        have h_13 : r_13 = (zStep c (nI (100 * j))) := h_13
        subst h_13
        refine lv_iconst (v := (-1)) hx hb dX0_rungNotAbove_16 (by decide) ?_
        refine lv_icmp_eq (tgt := 22) hx hb dX0_rungNotAbove_17 (by decide) (fun c_17 => ?_) (fun c_17 => ?_)
        · refine lv_iinc (v := (nI (100 * j) - 100)) (lv' := [(2, .int (nI (100 * j) - 100)), (0, .ref h), (1, .int p)]) hx hb dX0_rungNotAbove_22 hl (k := 0) rfl (z_dec _) (by decide) rfl (fun ls hl => ?_)
          refine lv_goto (tgt := 7) hx hb dX0_rungNotAbove_25 (by decide) ?_
          exact ih j (by omega) (by omega) ((if_pos c_17).symm.trans he) ls (lv_sub hl [0, 1, 2] rfl)
        · refine lv_iload_n hx hb dX0_rungNotAbove_20 rfl (lv_at hl 0 rfl) ?_
          exact W.iret (v := (nI (100 * j))) hx hb hr (fun t ht hW => ⟨_, rfl, (if_neg c_17).symm.trans he, ht⟩) (fun _ h9 => nomatch h9) dX0_rungNotAbove_21
  refine lv_iload_n hx hb dX0_rungNotAbove_0 rfl (lv_at hl 1 rfl) ?_
  refine lv_iload_n hx hb dX0_rungNotAbove_1 rfl (lv_at hl 1 rfl) ?_
  refine lv_bipush (v := 100) hx hb dX0_rungNotAbove_2 (by decide) ?_
  refine lv_irem hx hb dX0_rungNotAbove_4 (by decide) ?_
  refine lv_isub hx hb dX0_rungNotAbove_5 ?_
  rw [show ((p - (p - p / 100 * 100)) : Int32) = (nI (100 * (p.toNatClampNeg / 100 + 1)) - 100) from (z_fl hp).trans (zv_s _).symm]
  refine lv_istore_n (lv' := [(2, .int (nI (100 * (p.toNatClampNeg / 100 + 1)) - 100)), (0, .ref h), (1, .int p)]) hx hb dX0_rungNotAbove_6 rfl hl (by decide) rfl (fun ls hl => ?_)
  exact loop 122 (p.toNatClampNeg / 100 + 1) (by omega) (by omega) rfl ls (lv_sub hl [0, 1, 2] rfl)

set_option maxHeartbeats 4000000 in
set_option maxRecDepth 100000 in
theorem c_X0_rungAbove (l : Launch) (D : va_G) (N0 : Nat) (cA cL : ClassId) (E : va_W) (h : Nat) (d : Nat → Nat) (z : S7) (c : C5) (p : Int32) (hc : okC c) (hp : zp p) : Met l yX0_rungAbove wsX0_rungAbove ({ frames := 3, cells := 0, slots := 0, locals := 68 }) (va_Pc [.ref h, .int p] (zPre D N0 cA cL (wX h d cA z c ++ E))) (vp_Si (fun rv => rv = zAbo c p)) 0 0 (fun _ => False) := by
  refine Met.ofW (cc := cX0_rungAbove) (maxL := 3) (ret := (some .int)) (by decide) rfl ?_
  intro pr e s m ag below meth cd s₁ B hml hv
  obtain ⟨rfl, hN, hP, hD, hK, hE⟩ := hv
  have hx := B.exec
  have hb := B.bytes
  have hr := B.returns
  have hts := atoms_spec (ws := wsX0_rungAbove) B.pre
  have hown : s.vm.findClass RX0 = some m.cls := findClass_of_methodNamed B.named
  have hlocks := B.notSynchronized
  have hS : va_S (zA N0) s.heap s.heap [] := va_S.rf
  have hl := lv_entry ([.ref h, .int p]) (n := 3) (Nat.le_of_ble_eq_true rfl)
  rw [lg_entry_eq]
  generalize (lg_sl ([.ref h, .int p]) ++ List.replicate (3 - (lg_sl ([.ref h, .int p])).length) Slot.unset).toArray = ls at hl ⊢
  have hl : lv_has ls 3 [(0, .ref h), (1, .int p)] := hl
  have hpn := zp_n hp
  have loop : ∀ (n : Nat) (f j : Nat), f + j = 121 → f < n → zAboN c f j = zAbo c p → ∀ (ls : Array Slot), lv_has ls 3 [(2, .int (nI (100 * j))), (0, .ref h), (1, .int p)] → W pr l e (headSpec wsX0_rungAbove ({ frames := 3, cells := 0, slots := 0, locals := 68 })).room s m ([.ref h, .int p] : List Value).toArray below meth cd s.heap [] 0 0 (MQ below (vp_Si (fun rv => rv = zAbo c p)) ([.ref h, .int p] : List Value).toArray s 0 0 (fun _ => False)) (F0 m 10 ls []) := by
    intro n
    induction n with
    | zero =>
      intro f j hf hn he
      omega
    | succ n ih =>
      intro f j hf hn he ls hl
      refine lv_iload_n hx hb dX0_rungAbove_10 rfl (lv_at hl 0 rfl) ?_
      refine lv_sipush (v := 12000) hx hb dX0_rungAbove_11 (by decide) ?_
      refine lv_icmp_gt (tgt := 34) hx hb dX0_rungAbove_14 (by decide) (fun c_14 => ?_) (fun c_14 => ?_)
      · have f0 : f = 0 := by have := (nI_ltI (a := 12000) (by decide) (by omega)).mp c_14; omega
        subst f0
        refine lv_iconst (v := (-1)) hx hb dX0_rungAbove_34 (by decide) ?_
        exact W.iret (v := (-1)) hx hb hr (fun t ht hW => ⟨_, rfl, he, ht⟩) (fun _ h9 => nomatch h9) dX0_rungAbove_35
      · obtain ⟨g, rfl⟩ : ∃ g, f = g + 1 := ⟨f - 1, by have : ¬ f = 0 := fun q => c_14 ((nI_ltI (a := 12000) (by decide) (by omega)).mpr (by omega)); omega⟩
        refine lv_aload_n hx hb dX0_rungAbove_17 rfl (lv_at hl 1 rfl) ?_
        refine lv_iload_n hx hb dX0_rungAbove_18 rfl (lv_at hl 0 rfl) ?_
        refine vp_callSi ((va_runV (As := [.int (nI (100 * j))]) (rest := []) ⟨hx, hb, hml, hown, hts⟩ (c_X0_stepAt l D N0 cA cL E h d z c (nI (100 * j)) hc) (cwV 1 hts gX0_rungAbove_X0_stepAt rfl rfl rfl (by decide +kernel) ⟨Nat.le_of_ble_eq_true rfl, Nat.le_of_ble_eq_true rfl⟩) ⟨zPre.blind, va_recv hK hP (ci := 0) (q0 := 0) rfl rfl, zPre.call hN hP hD hK hE hS⟩ rfl rfl hl.1 rfl (lv_room (Nat.le_of_ble_eq_true rfl)) dX0_rungAbove_19 ⟨Nat.zero_le _, Nat.zero_le _⟩).run) (fun r_19 h_19 => ?_)
        have h_19 : r_19 = (zStep c (nI (100 * j))) := h_19
        subst h_19
        refine lv_iconst (v := (-1)) hx hb dX0_rungAbove_22 (by decide) ?_
        refine lv_icmp_eq (tgt := 28) hx hb dX0_rungAbove_23 (by decide) (fun c_23 => ?_) (fun c_23 => ?_)
        · refine lv_iinc (v := (nI (100 * (j + 1)))) (lv' := [(2, .int (nI (100 * (j + 1)))), (0, .ref h), (1, .int p)]) hx hb dX0_rungAbove_28 hl (k := 0) rfl (z_inc (100 * j) 100) (by decide) rfl (fun ls hl => ?_)
          refine lv_goto (tgt := 10) hx hb dX0_rungAbove_31 (by decide) ?_
          exact ih g (j + 1) (by omega) (by omega) ((if_pos c_23).symm.trans he) ls (lv_sub hl [0, 1, 2] rfl)
        · refine lv_iload_n hx hb dX0_rungAbove_26 rfl (lv_at hl 0 rfl) ?_
          exact W.iret (v := (nI (100 * j))) hx hb hr (fun t ht hW => ⟨_, rfl, (if_neg c_23).symm.trans he, ht⟩) (fun _ h9 => nomatch h9) dX0_rungAbove_27
  refine lv_iload_n hx hb dX0_rungAbove_0 rfl (lv_at hl 1 rfl) ?_
  refine lv_iload_n hx hb dX0_rungAbove_1 rfl (lv_at hl 1 rfl) ?_
  refine lv_bipush (v := 100) hx hb dX0_rungAbove_2 (by decide) ?_
  refine lv_irem hx hb dX0_rungAbove_4 (by decide) ?_
  refine lv_isub hx hb dX0_rungAbove_5 ?_
  refine lv_bipush (v := 100) hx hb dX0_rungAbove_6 (by decide) ?_
  refine lv_iadd hx hb dX0_rungAbove_8 ?_
  rw [show (((p - (p - p / 100 * 100)) + 100) : Int32) = (nI (100 * (p.toNatClampNeg / 100 + 1))) from (by rw [z_fl hp]; exact nI_add _ 100)]
  refine lv_istore_n (lv' := [(2, .int (nI (100 * (p.toNatClampNeg / 100 + 1)))), (0, .ref h), (1, .int p)]) hx hb dX0_rungAbove_9 rfl hl (by decide) rfl (fun ls hl => ?_)
  exact loop 122 (120 - p.toNatClampNeg / 100) (p.toNatClampNeg / 100 + 1) (by omega) (by omega) rfl ls (lv_sub hl [0, 1, 2] rfl)

set_option maxHeartbeats 4000000 in
set_option maxRecDepth 100000 in
theorem c_X0_nearestRung (l : Launch) (D : va_G) (N0 : Nat) (cA cL : ClassId) (E : va_W) (h : Nat) (d : Nat → Nat) (z : S7) (c : C5) (p : Int32) (hc : okC c) (hp : zp p) : Met l yX0_nearestRung wsX0_nearestRung ({ frames := 4, cells := 0, slots := 0, locals := 90 }) (va_Pc [.ref h, .int p] (zPre D N0 cA cL (wX h d cA z c ++ E))) (vp_Si (fun rv => rv = zNear c p)) 0 0 (fun _ => False) := by
  refine Met.ofW (cc := cX0_nearestRung) (maxL := 4) (ret := (some .int)) (by decide) rfl ?_
  intro pr e s m ag below meth cd s₁ B hml hv
  obtain ⟨rfl, hN, hP, hD, hK, hE⟩ := hv
  have hx := B.exec
  have hb := B.bytes
  have hr := B.returns
  have hts := atoms_spec (ws := wsX0_nearestRung) B.pre
  have hown : s.vm.findClass RX0 = some m.cls := findClass_of_methodNamed B.named
  have hlocks := B.notSynchronized
  have hS : va_S (zA N0) s.heap s.heap [] := va_S.rf
  have hl := lv_entry ([.ref h, .int p]) (n := 4) (Nat.le_of_ble_eq_true rfl)
  rw [lg_entry_eq]
  generalize (lg_sl ([.ref h, .int p]) ++ List.replicate (4 - (lg_sl ([.ref h, .int p])).length) Slot.unset).toArray = ls at hl ⊢
  have hl : lv_has ls 4 [(0, .ref h), (1, .int p)] := hl
  refine lv_aload_n hx hb dX0_nearestRung_0 rfl (lv_at hl 0 rfl) ?_
  refine lv_iload_n hx hb dX0_nearestRung_1 rfl (lv_at hl 1 rfl) ?_
  refine vp_callSi ((va_runV (As := [.int p]) (rest := []) ⟨hx, hb, hml, hown, hts⟩ (c_X0_rungNotAbove l D N0 cA cL E h d z c p hc hp) (cwV 1 hts gX0_nearestRung_X0_rungNotAbove rfl rfl rfl (by decide +kernel) ⟨Nat.le_of_ble_eq_true rfl, Nat.le_of_ble_eq_true rfl⟩) ⟨zPre.blind, va_recv hK hP (ci := 0) (q0 := 0) rfl rfl, zPre.call hN hP hD hK hE hS⟩ rfl rfl hl.1 rfl (lv_room (Nat.le_of_ble_eq_true rfl)) dX0_nearestRung_2 ⟨Nat.zero_le _, Nat.zero_le _⟩).run) (fun r_2 h_2 => ?_)
  have h_2 : r_2 = (zBel c p) := h_2
  subst h_2
  refine lv_istore_n (lv' := [(2, .int (zBel c p)), (0, .ref h), (1, .int p)]) hx hb dX0_nearestRung_5 rfl hl (by decide) rfl (fun ls hl => ?_)
  refine lv_aload_n hx hb dX0_nearestRung_6 rfl (lv_at hl 1 rfl) ?_
  refine lv_iload_n hx hb dX0_nearestRung_7 rfl (lv_at hl 2 rfl) ?_
  refine vp_callSi ((va_runV (As := [.int p]) (rest := []) ⟨hx, hb, hml, hown, hts⟩ (c_X0_rungAbove l D N0 cA cL E h d z c p hc hp) (cwV 1 hts gX0_nearestRung_X0_rungAbove rfl rfl rfl (by decide +kernel) ⟨Nat.le_of_ble_eq_true rfl, Nat.le_of_ble_eq_true rfl⟩) ⟨zPre.blind, va_recv hK hP (ci := 0) (q0 := 0) rfl rfl, zPre.call hN hP hD hK hE hS⟩ rfl rfl hl.1 rfl (lv_room (Nat.le_of_ble_eq_true rfl)) dX0_nearestRung_8 ⟨Nat.zero_le _, Nat.zero_le _⟩).run) (fun r_8 h_8 => ?_)
  have h_8 : r_8 = (zAbo c p) := h_8
  subst h_8
  refine lv_istore_n (lv' := [(3, .int (zAbo c p)), (2, .int (zBel c p)), (0, .ref h), (1, .int p)]) hx hb dX0_nearestRung_11 rfl hl (by decide) rfl (fun ls hl => ?_)
  refine lv_iload_n hx hb dX0_nearestRung_12 rfl (lv_at hl 1 rfl) ?_
  refine lv_iconst (v := (-1)) hx hb dX0_nearestRung_13 (by decide) ?_
  refine lv_icmp_ne (tgt := 19) hx hb dX0_nearestRung_14 (by decide) (fun c_14 => ?_) (fun c_14 => ?_)
  · refine lv_iload_n hx hb dX0_nearestRung_19 rfl (lv_at hl 0 rfl) ?_
    refine lv_iconst (v := (-1)) hx hb dX0_nearestRung_20 (by decide) ?_
    refine lv_icmp_eq (tgt := 33) hx hb dX0_nearestRung_21 (by decide) (fun c_21 => ?_) (fun c_21 => ?_)
    · refine lv_iload_n hx hb dX0_nearestRung_33 rfl (lv_at hl 1 rfl) ?_
      exact W.iret (v := (zBel c p)) hx hb hr (fun t ht hW => ⟨_, rfl, zNear_2 hc hp c_14 c_21, ht⟩) (fun _ h9 => nomatch h9) dX0_nearestRung_34
    · refine lv_iload_n hx hb dX0_nearestRung_24 rfl (lv_at hl 3 rfl) ?_
      refine lv_iload_n hx hb dX0_nearestRung_25 rfl (lv_at hl 1 rfl) ?_
      refine lv_isub hx hb dX0_nearestRung_26 ?_
      refine lv_iload_n hx hb dX0_nearestRung_27 rfl (lv_at hl 0 rfl) ?_
      refine lv_iload_n hx hb dX0_nearestRung_28 rfl (lv_at hl 3 rfl) ?_
      refine lv_isub hx hb dX0_nearestRung_29 ?_
      refine lv_icmp_gt (tgt := 35) hx hb dX0_nearestRung_30 (by decide) (fun c_30 => ?_) (fun c_30 => ?_)
      · refine lv_iload_n hx hb dX0_nearestRung_35 rfl (lv_at hl 0 rfl) ?_
        exact W.iret (v := (zAbo c p)) hx hb hr (fun t ht hW => ⟨_, rfl, (zNear_both hc hp c_14 c_21).1 c_30, ht⟩) (fun _ h9 => nomatch h9) dX0_nearestRung_36
      · refine lv_iload_n hx hb dX0_nearestRung_33 rfl (lv_at hl 1 rfl) ?_
        exact W.iret (v := (zBel c p)) hx hb hr (fun t ht hW => ⟨_, rfl, (zNear_both hc hp c_14 c_21).2 c_30, ht⟩) (fun _ h9 => nomatch h9) dX0_nearestRung_34
  · refine lv_iload_n hx hb dX0_nearestRung_17 rfl (lv_at hl 0 rfl) ?_
    exact W.iret (v := (zAbo c p)) hx hb hr (fun t ht hW => ⟨_, rfl, zNear_1 hc hp c_14, ht⟩) (fun _ h9 => nomatch h9) dX0_nearestRung_18

set_option maxHeartbeats 4000000 in
set_option maxRecDepth 100000 in
theorem c_X0_nextRung (l : Launch) (D : va_G) (N0 : Nat) (cA cL : ClassId) (E : va_W) (h : Nat) (d : Nat → Nat) (z : S7) (c : C5) (r : Int32) (p : Int32) (hc : okC c) (hp : zp p) : Met l yX0_nextRung wsX0_nextRung ({ frames := 5, cells := 0, slots := 0, locals := 113 }) (va_Pc [.ref h, .int r, .int p] (zPre D N0 cA cL (wX h d cA z c ++ E))) (vp_Si (fun rv => rv = zNext c r p)) 0 0 (fun _ => False) := by
  refine Met.ofW (cc := cX0_nextRung) (maxL := 3) (ret := (some .int)) (by decide) rfl ?_
  intro pr e s m ag below meth cd s₁ B hml hv
  obtain ⟨rfl, hN, hP, hD, hK, hE⟩ := hv
  have hx := B.exec
  have hb := B.bytes
  have hr := B.returns
  have hts := atoms_spec (ws := wsX0_nextRung) B.pre
  have hown : s.vm.findClass RX0 = some m.cls := findClass_of_methodNamed B.named
  have hlocks := B.notSynchronized
  have hS : va_S (zA N0) s.heap s.heap [] := va_S.rf
  have hiw : ∀ w ∈ u_ws RX0 TX0 12, w ∈ wsX0_nextRung := by decide +kernel
  have hl := lv_entry ([.ref h, .int r, .int p]) (n := 3) (Nat.le_of_ble_eq_true rfl)
  rw [lg_entry_eq]
  generalize (lg_sl ([.ref h, .int r, .int p]) ++ List.replicate (3 - (lg_sl ([.ref h, .int r, .int p])).length) Slot.unset).toArray = ls at hl ⊢
  have hl : lv_has ls 3 [(0, .ref h), (1, .int r), (2, .int p)] := hl
  refine lv_iload_n hx hb dX0_nextRung_0 rfl (lv_at hl 1 rfl) ?_
  refine lv_iconst (v := (-1)) hx hb dX0_nextRung_1 (by decide) ?_
  refine lv_icmp_eq (tgt := 20) hx hb dX0_nextRung_2 (by decide) (fun c_2 => ?_) (fun c_2 => ?_)
  · refine lv_aload_n hx hb dX0_nextRung_20 rfl (lv_at hl 0 rfl) ?_
    refine lv_iload_n hx hb dX0_nextRung_21 rfl (lv_at hl 2 rfl) ?_
    refine vp_callSi ((va_runV (As := [.int p]) (rest := []) ⟨hx, hb, hml, hown, hts⟩ (c_X0_nearestRung l D N0 cA cL E h d z c p hc hp) (cwV 1 hts gX0_nextRung_X0_nearestRung rfl rfl rfl (by decide +kernel) ⟨Nat.le_of_ble_eq_true rfl, Nat.le_of_ble_eq_true rfl⟩) ⟨zPre.blind, va_recv hK hP (ci := 0) (q0 := 0) rfl rfl, zPre.call hN hP hD hK hE hS⟩ rfl rfl hl.1 rfl (lv_room (Nat.le_of_ble_eq_true rfl)) dX0_nextRung_22 ⟨Nat.zero_le _, Nat.zero_le _⟩).run) (fun r_22 h_22 => ?_)
    have h_22 : r_22 = (zNear c p) := h_22
    subst h_22
    exact W.iret (v := (zNear c p)) hx hb hr (fun t ht hW => ⟨_, rfl, zNext_n (fun q => q.1 c_2), ht⟩) (fun _ h9 => nomatch h9) dX0_nextRung_25
  · refine lv_iload_n hx hb dX0_nextRung_5 rfl (lv_at hl 2 rfl) ?_
    refine lv_iload_n hx hb dX0_nextRung_6 rfl (lv_at hl 1 rfl) ?_
    refine lv_isub hx hb dX0_nextRung_7 ?_
    refine va_mabs hx hb (hml.trans hl.1.symm) hown (hts (.methodLink RX0 120 Lib.Math.abs.name) (by decide +kernel)) (hts (.static Lib.Math.abs.name) (by decide +kernel)) (hts (.initialized "java/lang/Math") (by decide +kernel)) (hts (.code Lib.Math.abs.name Lib.Math.abs.code 1 (some .int)) (by decide +kernel)) (Nat.le_of_ble_eq_true rfl) (Nat.le_of_ble_eq_true rfl) (Nat.zero_le _) (Nat.zero_le _) dX0_nextRung_8 ?_
    rw [show ((if 0 ≤ (p - r) then (p - r) else 0 - (p - r)) : Int32) = (zAbs (p - r)) from rfl]
    refine lv_aload_n hx hb dX0_nextRung_11 rfl (lv_at hl 0 rfl) ?_
    refine va_get (D := D) (ci := 0) (v := .int c.2.2.2.1) (C := RX0) (T := TX0) (N := 12) hx hb hts hiw hown hK hP 0 rfl rfl 10 (by decide) (hts (.fieldLink RX0 41 "TunedWrens" "rungLeash" "I") (by decide +kernel)) (fun _ h9 => h9) rfl dX0_nextRung_12 ?_
    refine lv_icmp_gt (tgt := 20) hx hb dX0_nextRung_15 (by decide) (fun c_15 => ?_) (fun c_15 => ?_)
    · refine lv_aload_n hx hb dX0_nextRung_20 rfl (lv_at hl 0 rfl) ?_
      refine lv_iload_n hx hb dX0_nextRung_21 rfl (lv_at hl 2 rfl) ?_
      refine vp_callSi ((va_runV (As := [.int p]) (rest := []) ⟨hx, hb, hml, hown, hts⟩ (c_X0_nearestRung l D N0 cA cL E h d z c p hc hp) (cwV 1 hts gX0_nextRung_X0_nearestRung rfl rfl rfl (by decide +kernel) ⟨Nat.le_of_ble_eq_true rfl, Nat.le_of_ble_eq_true rfl⟩) ⟨zPre.blind, va_recv hK hP (ci := 0) (q0 := 0) rfl rfl, zPre.call hN hP hD hK hE hS⟩ rfl rfl hl.1 rfl (lv_room (Nat.le_of_ble_eq_true rfl)) dX0_nextRung_22 ⟨Nat.zero_le _, Nat.zero_le _⟩).run) (fun r_22 h_22 => ?_)
      have h_22 : r_22 = (zNear c p) := h_22
      subst h_22
      exact W.iret (v := (zNear c p)) hx hb hr (fun t ht hW => ⟨_, rfl, zNext_n (fun q => Int32.not_le.mpr c_15 q.2), ht⟩) (fun _ h9 => nomatch h9) dX0_nextRung_25
    · refine lv_iload_n hx hb dX0_nextRung_18 rfl (lv_at hl 1 rfl) ?_
      exact W.iret (v := r) hx hb hr (fun t ht hW => ⟨_, rfl, zNext_k ⟨c_2, Int32.not_lt.mp c_15⟩, ht⟩) (fun _ h9 => nomatch h9) dX0_nextRung_19

set_option maxHeartbeats 4000000 in
set_option maxRecDepth 100000 in
theorem c_X0_isLeap (l : Launch) (D : va_G) (N0 : Nat) (cA cL : ClassId) (E : va_W) (h : Nat) (d : Nat → Nat) (z : S7) (c : C5) (r0 : Int32) (r1 : Int32) : Met l yX0_isLeap wsX0_isLeap ({ frames := 1, cells := 0, slots := 0, locals := 21 }) (va_Pc [.ref h, .int r0, .int r1] (zPre D N0 cA cL (wX h d cA z c ++ E))) (vp_Si (fun rv => rv = zb (zLeap c r0 r1))) 0 0 (fun _ => False) := by
  refine Met.ofW (cc := cX0_isLeap) (maxL := 3) (ret := (some .boolean)) (by decide) rfl ?_
  intro pr e s m ag below meth cd s₁ B hml hv
  obtain ⟨rfl, hN, hP, hD, hK, hE⟩ := hv
  have hx := B.exec
  have hb := B.bytes
  have hr := B.returns
  have hts := atoms_spec (ws := wsX0_isLeap) B.pre
  have hown : s.vm.findClass RX0 = some m.cls := findClass_of_methodNamed B.named
  have hlocks := B.notSynchronized
  have hS : va_S (zA N0) s.heap s.heap [] := va_S.rf
  have hiw : ∀ w ∈ u_ws RX0 TX0 12, w ∈ wsX0_isLeap := by decide +kernel
  have hl := lv_entry ([.ref h, .int r0, .int r1]) (n := 3) (Nat.le_of_ble_eq_true rfl)
  rw [lg_entry_eq]
  generalize (lg_sl ([.ref h, .int r0, .int r1]) ++ List.replicate (3 - (lg_sl ([.ref h, .int r0, .int r1])).length) Slot.unset).toArray = ls at hl ⊢
  have hl : lv_has ls 3 [(0, .ref h), (1, .int r0), (2, .int r1)] := hl
  refine lv_iload_n hx hb dX0_isLeap_0 rfl (lv_at hl 1 rfl) ?_
  refine lv_iload_n hx hb dX0_isLeap_1 rfl (lv_at hl 2 rfl) ?_
  refine vp_callSi ((va_runS (As := [.int r0, .int r1]) (rest := []) ⟨hx, hb, hml, hown, hts⟩ (c_X0_isChange l r0 r1) (va_cwS 2 hts gX0_isLeap_X0_isChange rfl rfl rfl (by decide +kernel) ⟨Nat.le_of_ble_eq_true rfl, Nat.le_of_ble_eq_true rfl⟩) ⟨zT.blind, zT.call⟩ rfl rfl hl.1 rfl (lv_room (Nat.le_of_ble_eq_true rfl)) dX0_isLeap_2 ⟨Nat.zero_le _, Nat.zero_le _⟩).run) (fun r_2 h_2 => ?_)
  have h_2 : r_2 = (zb (zChg r0 r1)) := h_2
  subst h_2
  refine lv_if_eq (tgt := 25) hx hb dX0_isLeap_5 (by decide) (fun c_5 => ?_) (fun c_5 => ?_)
  · refine lv_iconst (v := 0) hx hb dX0_isLeap_25 (by decide) ?_
    exact W.zret (v := 0) hx hb hr rfl (fun t ht hW => ⟨_, rfl, (zb_0 (fun q => zb_f c_5 q.1)).symm, ht⟩) (fun _ h9 => nomatch h9) dX0_isLeap_26
  · refine lv_iload_n hx hb dX0_isLeap_8 rfl (lv_at hl 2 rfl) ?_
    refine lv_iload_n hx hb dX0_isLeap_9 rfl (lv_at hl 1 rfl) ?_
    refine lv_isub hx hb dX0_isLeap_10 ?_
    refine va_mabs hx hb (hml.trans hl.1.symm) hown (hts (.methodLink RX0 120 Lib.Math.abs.name) (by decide +kernel)) (hts (.static Lib.Math.abs.name) (by decide +kernel)) (hts (.initialized "java/lang/Math") (by decide +kernel)) (hts (.code Lib.Math.abs.name Lib.Math.abs.code 1 (some .int)) (by decide +kernel)) (Nat.le_of_ble_eq_true rfl) (Nat.le_of_ble_eq_true rfl) (Nat.zero_le _) (Nat.zero_le _) dX0_isLeap_11 ?_
    rw [show ((if 0 ≤ (r1 - r0) then (r1 - r0) else 0 - (r1 - r0)) : Int32) = (zAbs (r1 - r0)) from rfl]
    refine lv_aload_n hx hb dX0_isLeap_14 rfl (lv_at hl 0 rfl) ?_
    refine va_get (D := D) (ci := 0) (v := .int c.2.2.2.2) (C := RX0) (T := TX0) (N := 12) hx hb hts hiw hown hK hP 0 rfl rfl 11 (by decide) (hts (.fieldLink RX0 44 "TunedWrens" "leapGlide" "I") (by decide +kernel)) (fun _ h9 => h9) rfl dX0_isLeap_15 ?_
    refine lv_icmp_le (tgt := 25) hx hb dX0_isLeap_18 (by decide) (fun c_18 => ?_) (fun c_18 => ?_)
    · refine lv_iconst (v := 0) hx hb dX0_isLeap_25 (by decide) ?_
      exact W.zret (v := 0) hx hb hr rfl (fun t ht hW => ⟨_, rfl, (zb_0 (fun q => Int32.not_lt.mpr c_18 q.2)).symm, ht⟩) (fun _ h9 => nomatch h9) dX0_isLeap_26
    · refine lv_iconst (v := 1) hx hb dX0_isLeap_21 (by decide) ?_
      refine lv_goto (tgt := 26) hx hb dX0_isLeap_22 (by decide) ?_
      exact W.zret (v := 1) hx hb hr rfl (fun t ht hW => ⟨_, rfl, (zb_1 ⟨zb_t c_5, Int32.not_le.mp c_18⟩).symm, ht⟩) (fun _ h9 => nomatch h9) dX0_isLeap_26

set_option maxHeartbeats 4000000 in
set_option maxRecDepth 100000 in
theorem c_X0_nudgeTowards (l : Launch) (D : va_G) (N0 : Nat) (cA cL : ClassId) (E : va_W) (h : Nat) (d : Nat → Nat) (z : S7) (c : C5) (n : Int32) (due : Int32) : Met l yX0_nudgeTowards wsX0_nudgeTowards ({ frames := 1, cells := 0, slots := 0, locals := 21 }) (va_Pc [.ref h, .int n, .int due] (zPre D N0 cA cL (wX h d cA z c ++ E))) (vp_Si (fun rv => rv = zTow c.2.2.1 n due)) 0 0 (fun _ => False) := by
  refine Met.ofW (cc := cX0_nudgeTowards) (maxL := 5) (ret := (some .int)) (by decide) rfl ?_
  intro pr e s m ag below meth cd s₁ B hml hv
  obtain ⟨rfl, hN, hP, hD, hK, hE⟩ := hv
  have hx := B.exec
  have hb := B.bytes
  have hr := B.returns
  have hts := atoms_spec (ws := wsX0_nudgeTowards) B.pre
  have hown : s.vm.findClass RX0 = some m.cls := findClass_of_methodNamed B.named
  have hlocks := B.notSynchronized
  have hS : va_S (zA N0) s.heap s.heap [] := va_S.rf
  have hiw : ∀ w ∈ u_ws RX0 TX0 12, w ∈ wsX0_nudgeTowards := by decide +kernel
  have hl := lv_entry ([.ref h, .int n, .int due]) (n := 5) (Nat.le_of_ble_eq_true rfl)
  rw [lg_entry_eq]
  generalize (lg_sl ([.ref h, .int n, .int due]) ++ List.replicate (5 - (lg_sl ([.ref h, .int n, .int due])).length) Slot.unset).toArray = ls at hl ⊢
  have hl : lv_has ls 5 [(0, .ref h), (1, .int n), (2, .int due)] := hl
  refine lv_iload_n hx hb dX0_nudgeTowards_0 rfl (lv_at hl 2 rfl) ?_
  refine lv_iload_n hx hb dX0_nudgeTowards_1 rfl (lv_at hl 1 rfl) ?_
  refine lv_isub hx hb dX0_nudgeTowards_2 ?_
  refine lv_istore_n (lv' := [(3, .int (due - n)), (0, .ref h), (1, .int n), (2, .int due)]) hx hb dX0_nudgeTowards_3 rfl hl (by decide) rfl (fun ls hl => ?_)
  refine lv_iload_n hx hb dX0_nudgeTowards_4 rfl (lv_at hl 0 rfl) ?_
  refine lv_aload_n hx hb dX0_nudgeTowards_5 rfl (lv_at hl 1 rfl) ?_
  refine va_get (D := D) (ci := 0) (v := .int c.2.2.1) (C := RX0) (T := TX0) (N := 12) hx hb hts hiw hown hK hP 0 rfl rfl 9 (by decide) (hts (.fieldLink RX0 38 "TunedWrens" "nudgeSpeed" "I") (by decide +kernel)) (fun _ h9 => h9) rfl dX0_nudgeTowards_6 ?_
  refine lv_imul hx hb dX0_nudgeTowards_9 ?_
  refine lv_bipush (v := 100) hx hb dX0_nudgeTowards_10 (by decide) ?_
  refine lv_idiv hx hb dX0_nudgeTowards_12 (by decide) ?_
  refine lv_istore (lv' := [(4, .int (((due - n) * c.2.2.1) / 100)), (3, .int (due - n)), (0, .ref h), (1, .int n), (2, .int due)]) hx hb dX0_nudgeTowards_13 hl (by decide) rfl (fun ls hl => ?_)
  refine lv_iload hx hb dX0_nudgeTowards_15 (lv_at hl 0 rfl) ?_
  refine lv_if_ne (tgt := 38) hx hb dX0_nudgeTowards_17 (by decide) (fun c_17 => ?_) (fun c_17 => ?_)
  · refine lv_iload_n hx hb dX0_nudgeTowards_38 rfl (lv_at hl 3 rfl) ?_
    refine lv_iload hx hb dX0_nudgeTowards_39 (lv_at hl 0 rfl) ?_
    refine lv_iadd hx hb dX0_nudgeTowards_41 ?_
    exact W.iret (v := (n + (((due - n) * c.2.2.1) / 100))) hx hb hr (fun t ht hW => ⟨_, rfl, zTow_1 c_17, ht⟩) (fun _ h9 => nomatch h9) dX0_nudgeTowards_42
  · refine lv_aload_n hx hb dX0_nudgeTowards_20 rfl (lv_at hl 2 rfl) ?_
    refine va_get (D := D) (ci := 0) (v := .int c.2.2.1) (C := RX0) (T := TX0) (N := 12) hx hb hts hiw hown hK hP 0 rfl rfl 9 (by decide) (hts (.fieldLink RX0 38 "TunedWrens" "nudgeSpeed" "I") (by decide +kernel)) (fun _ h9 => h9) rfl dX0_nudgeTowards_21 ?_
    refine lv_if_eq (tgt := 38) hx hb dX0_nudgeTowards_24 (by decide) (fun c_24 => ?_) (fun c_24 => ?_)
    · refine lv_iload_n hx hb dX0_nudgeTowards_38 rfl (lv_at hl 3 rfl) ?_
      refine lv_iload hx hb dX0_nudgeTowards_39 (lv_at hl 0 rfl) ?_
      refine lv_iadd hx hb dX0_nudgeTowards_41 ?_
      exact W.iret (v := (n + (((due - n) * c.2.2.1) / 100))) hx hb hr (fun t ht hW => ⟨_, rfl, zTow_2 c_24, ht⟩) (fun _ h9 => nomatch h9) dX0_nudgeTowards_42
    · refine lv_iconst (v := (-1)) hx hb dX0_nudgeTowards_27 (by decide) ?_
      refine lv_iload_n hx hb dX0_nudgeTowards_28 rfl (lv_at hl 1 rfl) ?_
      refine lv_iconst (v := 1) hx hb dX0_nudgeTowards_29 (by decide) ?_
      refine va_mmin hx hb (hml.trans hl.1.symm) hown (hts (.methodLink RX0 123 Lib.Math.min.name) (by decide +kernel)) (hts (.static Lib.Math.min.name) (by decide +kernel)) (hts (.initialized "java/lang/Math") (by decide +kernel)) (hts (.code Lib.Math.min.name Lib.Math.min.code 2 (some .int)) (by decide +kernel)) (Nat.le_of_ble_eq_true rfl) (Nat.le_of_ble_eq_true rfl) (Nat.zero_le _) (Nat.zero_le _) dX0_nudgeTowards_30 ?_
      refine va_mmax hx hb (hml.trans hl.1.symm) hown (hts (.methodLink RX0 126 Lib.Math.max.name) (by decide +kernel)) (hts (.static Lib.Math.max.name) (by decide +kernel)) (hts (.initialized "java/lang/Math") (by decide +kernel)) (hts (.code Lib.Math.max.name Lib.Math.max.code 2 (some .int)) (by decide +kernel)) (Nat.le_of_ble_eq_true rfl) (Nat.le_of_ble_eq_true rfl) (Nat.zero_le _) (Nat.zero_le _) dX0_nudgeTowards_33 ?_
      refine lv_istore (lv' := [(4, .int (if (-1) < (if 1 < (due - n) then 1 else (due - n)) then (if 1 < (due - n) then 1 else (due - n)) else (-1))), (3, .int (due - n)), (0, .ref h), (1, .int n), (2, .int due)]) hx hb dX0_nudgeTowards_36 hl (by decide) rfl (fun ls hl => ?_)
      refine lv_iload_n hx hb dX0_nudgeTowards_38 rfl (lv_at hl 3 rfl) ?_
      refine lv_iload hx hb dX0_nudgeTowards_39 (lv_at hl 0 rfl) ?_
      refine lv_iadd hx hb dX0_nudgeTowards_41 ?_
      exact W.iret (v := (n + (if (-1) < (if 1 < (due - n) then 1 else (due - n)) then (if 1 < (due - n) then 1 else (due - n)) else (-1)))) hx hb hr (fun t ht hW => ⟨_, rfl, zTow_3 c_17 c_24, ht⟩) (fun _ h9 => nomatch h9) dX0_nudgeTowards_42

set_option maxHeartbeats 4000000 in
set_option maxRecDepth 100000 in
theorem c_X0_nextNudge (l : Launch) (D : va_G) (N0 : Nat) (cA cL : ClassId) (E : va_W) (h : Nat) (d : Nat → Nat) (z : S7) (c : C5) (w : Int32) (r : Int32) (p : Int32) (hw : zw w) : Met l yX0_nextNudge wsX0_nextNudge ({ frames := 2, cells := 0, slots := 0, locals := 45 }) (va_Pc [.ref h, .int w, .int r, .int p] (zPre D N0 cA cL (wX h d cA z c ++ E))) (vp_Si (fun rv => rv = zNud c (z.1 w.toNatClampNeg) (z.2.1 w.toNatClampNeg) r p)) 0 0 (fun _ => False) := by
  refine Met.ofW (cc := cX0_nextNudge) (maxL := 4) (ret := (some .int)) (by decide) rfl ?_
  intro pr e s m ag below meth cd s₁ B hml hv
  obtain ⟨rfl, hN, hP, hD, hK, hE⟩ := hv
  have hx := B.exec
  have hb := B.bytes
  have hr := B.returns
  have hts := atoms_spec (ws := wsX0_nextNudge) B.pre
  have hown : s.vm.findClass RX0 = some m.cls := findClass_of_methodNamed B.named
  have hlocks := B.notSynchronized
  have hS : va_S (zA N0) s.heap s.heap [] := va_S.rf
  have hiw : ∀ w ∈ u_ws RX0 TX0 12, w ∈ wsX0_nextNudge := by decide +kernel
  have hl := lv_entry ([.ref h, .int w, .int r, .int p]) (n := 4) (Nat.le_of_ble_eq_true rfl)
  rw [lg_entry_eq]
  generalize (lg_sl ([.ref h, .int w, .int r, .int p]) ++ List.replicate (4 - (lg_sl ([.ref h, .int w, .int r, .int p])).length) Slot.unset).toArray = ls at hl ⊢
  have hl : lv_has ls 4 [(0, .ref h), (1, .int w), (2, .int r), (3, .int p)] := hl
  refine lv_aload_n hx hb dX0_nextNudge_0 rfl (lv_at hl 0 rfl) ?_
  refine lv_aload_n hx hb dX0_nextNudge_1 rfl (lv_at hl 0 rfl) ?_
  refine va_get (D := D) (ci := 0) (v := .ref (d 0)) (C := RX0) (T := TX0) (N := 12) hx hb hts hiw hown hK hP 0 rfl rfl 0 (by decide) (hts (.fieldLink RX0 9 "TunedWrens" "rungOfWren" "[I") (by decide +kernel)) (fun _ h9 => h9) rfl dX0_nextNudge_2 ?_
  refine lv_iload_n hx hb dX0_nextNudge_5 rfl (lv_at hl 1 rfl) ?_
  refine va_iald hx hb hK hP 1 0 rfl rfl (zw_in hw) dX0_nextNudge_6 ?_
  refine lv_iload_n hx hb dX0_nextNudge_7 rfl (lv_at hl 2 rfl) ?_
  refine vp_callSi ((va_runV (As := [.int (z.1 w.toNatClampNeg), .int r]) (rest := []) ⟨hx, hb, hml, hown, hts⟩ (c_X0_isLeap l D N0 cA cL E h d z c (z.1 w.toNatClampNeg) r) (cwV 2 hts gX0_nextNudge_X0_isLeap rfl rfl rfl (by decide +kernel) ⟨Nat.le_of_ble_eq_true rfl, Nat.le_of_ble_eq_true rfl⟩) ⟨zPre.blind, va_recv hK hP (ci := 0) (q0 := 0) rfl rfl, zPre.call hN hP hD hK hE hS⟩ rfl rfl hl.1 rfl (lv_room (Nat.le_of_ble_eq_true rfl)) dX0_nextNudge_8 ⟨Nat.zero_le _, Nat.zero_le _⟩).run) (fun r_8 h_8 => ?_)
  have h_8 : r_8 = (zb (zLeap c (z.1 w.toNatClampNeg) r)) := h_8
  subst h_8
  refine lv_if_eq (tgt := 16) hx hb dX0_nextNudge_11 (by decide) (fun c_11 => ?_) (fun c_11 => ?_)
  · refine lv_aload_n hx hb dX0_nextNudge_16 rfl (lv_at hl 0 rfl) ?_
    refine lv_aload_n hx hb dX0_nextNudge_17 rfl (lv_at hl 0 rfl) ?_
    refine va_get (D := D) (ci := 0) (v := .ref (d 1)) (C := RX0) (T := TX0) (N := 12) hx hb hts hiw hown hK hP 0 rfl rfl 1 (by decide) (hts (.fieldLink RX0 13 "TunedWrens" "nudgeOfWren" "[I") (by decide +kernel)) (fun _ h9 => h9) rfl dX0_nextNudge_18 ?_
    refine lv_iload_n hx hb dX0_nextNudge_21 rfl (lv_at hl 1 rfl) ?_
    refine va_iald hx hb hK hP 2 0 rfl rfl (zw_in hw) dX0_nextNudge_22 ?_
    refine lv_iload_n hx hb dX0_nextNudge_23 rfl (lv_at hl 2 rfl) ?_
    refine lv_iload_n hx hb dX0_nextNudge_24 rfl (lv_at hl 3 rfl) ?_
    refine lv_isub hx hb dX0_nextNudge_25 ?_
    refine vp_callSi ((va_runV (As := [.int (z.2.1 w.toNatClampNeg), .int (r - p)]) (rest := []) ⟨hx, hb, hml, hown, hts⟩ (c_X0_nudgeTowards l D N0 cA cL E h d z c (z.2.1 w.toNatClampNeg) (r - p)) (cwV 2 hts gX0_nextNudge_X0_nudgeTowards rfl rfl rfl (by decide +kernel) ⟨Nat.le_of_ble_eq_true rfl, Nat.le_of_ble_eq_true rfl⟩) ⟨zPre.blind, va_recv hK hP (ci := 0) (q0 := 0) rfl rfl, zPre.call hN hP hD hK hE hS⟩ rfl rfl hl.1 rfl (lv_room (Nat.le_of_ble_eq_true rfl)) dX0_nextNudge_26 ⟨Nat.zero_le _, Nat.zero_le _⟩).run) (fun r_26 h_26 => ?_)
    have h_26 : r_26 = (zTow c.2.2.1 (z.2.1 w.toNatClampNeg) (r - p)) := h_26
    subst h_26
    exact W.iret (v := (zTow c.2.2.1 (z.2.1 w.toNatClampNeg) (r - p))) hx hb hr (fun t ht hW => ⟨_, rfl, zNud_n (zb_f c_11), ht⟩) (fun _ h9 => nomatch h9) dX0_nextNudge_29
  · refine lv_iconst (v := 0) hx hb dX0_nextNudge_14 (by decide) ?_
    exact W.iret (v := 0) hx hb hr (fun t ht hW => ⟨_, rfl, zNud_l (zb_t c_11), ht⟩) (fun _ h9 => nomatch h9) dX0_nextNudge_15

set_option maxHeartbeats 4000000 in
set_option maxRecDepth 100000 in
theorem c_X0_framesWithin (l : Launch) (D : va_G) (N0 : Nat) (cA cL : ClassId) (E : va_W) (h : Nat) (d : Nat → Nat) (z : S7) (c : C5) (ky md : Nat) (hk : ky < 12) (hm : md < 8) : Met l yX0_framesWithin wsX0_framesWithin ({ frames := 2, cells := 0, slots := 0, locals := 47 }) (va_Pc [.ref h, .int (nI ky), .int (nI md)] (zPre D N0 cA cL (wX h d cA z c ++ E))) (vp_Si (fun rv => rv = zW md ky z.2.2.2.2.2.2)) 0 0 (fun _ => False) := by
  refine Met.ofW (cc := cX0_framesWithin) (maxL := 5) (ret := (some .int)) (by decide) rfl ?_
  intro pr e s m ag below meth cd s₁ B hml hv
  obtain ⟨rfl, hN, hP, hD, hK, hE⟩ := hv
  have hx := B.exec
  have hb := B.bytes
  have hr := B.returns
  have hts := atoms_spec (ws := wsX0_framesWithin) B.pre
  have hown : s.vm.findClass RX0 = some m.cls := findClass_of_methodNamed B.named
  have hlocks := B.notSynchronized
  have hS : va_S (zA N0) s.heap s.heap [] := va_S.rf
  have hiw : ∀ w ∈ u_ws RX0 TX0 12, w ∈ wsX0_framesWithin := by decide +kernel
  have hl := lv_entry ([.ref h, .int (nI ky), .int (nI md)]) (n := 5) (Nat.le_of_ble_eq_true rfl)
  rw [lg_entry_eq]
  generalize (lg_sl ([.ref h, .int (nI ky), .int (nI md)]) ++ List.replicate (5 - (lg_sl ([.ref h, .int (nI ky), .int (nI md)])).length) Slot.unset).toArray = ls at hl ⊢
  have hl : lv_has ls 5 [(0, .ref h), (1, .int (nI ky)), (2, .int (nI md))] := hl
  have loop : ∀ (n : Nat) (i : Nat), i ≤ 12 → 13 ≤ i + n → ∀ (ls : Array Slot), lv_has ls 5 [(3, .int (zWn md ky z.2.2.2.2.2.2 i)), (4, .int (nI i)), (0, .ref h), (1, .int (nI ky)), (2, .int (nI md))] → W pr l e (headSpec wsX0_framesWithin ({ frames := 2, cells := 0, slots := 0, locals := 47 })).room s m ([.ref h, .int (nI ky), .int (nI md)] : List Value).toArray below meth cd s.heap [] 0 0 (MQ below (vp_Si (fun rv => rv = zW md ky z.2.2.2.2.2.2)) ([.ref h, .int (nI ky), .int (nI md)] : List Value).toArray s 0 0 (fun _ => False)) (F0 m 5 ls []) := by
    intro n
    induction n with
    | zero =>
      intro i hi hn
      omega
    | succ n ih =>
      intro i hi hn ls hl
      refine lv_iload hx hb dX0_framesWithin_5 (lv_at hl 1 rfl) ?_
      refine lv_bipush (v := 12) hx hb dX0_framesWithin_7 (by decide) ?_
      refine lv_icmp_ge (tgt := 40) hx hb dX0_framesWithin_9 (by decide) (fun c_9 => ?_) (fun c_9 => ?_)
      · have hi12 : i = 12 := by have := (nI_leI (a := 12) (by decide) (by omega)).mp c_9; omega
        subst hi12
        refine lv_iload_n hx hb dX0_framesWithin_40 rfl (lv_at hl 0 rfl) ?_
        exact W.iret (v := (zWn md ky z.2.2.2.2.2.2 12)) hx hb hr (fun t ht hW => ⟨_, rfl, rfl, ht⟩) (fun _ h9 => nomatch h9) dX0_framesWithin_41
      · have hi12 : i < 12 := by
          rcases Nat.lt_or_ge i 12 with q | q
          · exact q
          · exact absurd ((nI_leI (a := 12) (by decide) (by omega)).mpr q) c_9
        refine lv_iload hx hb dX0_framesWithin_12 (lv_at hl 1 rfl) ?_
        refine lv_iload_n hx hb dX0_framesWithin_14 rfl (lv_at hl 3 rfl) ?_
        refine lv_isub hx hb dX0_framesWithin_15 ?_
        refine lv_iload_n hx hb dX0_framesWithin_16 rfl (lv_at hl 4 rfl) ?_
        refine vp_callSi ((va_runS (As := [.int ((nI i) - (nI ky)), .int (nI md)]) (rest := []) ⟨hx, hb, hml, hown, hts⟩ (c_X0_stepAbove l N0 ((nI i) - (nI ky)) md hm) (va_cwS 2 hts gX0_framesWithin_X0_stepAbove rfl rfl rfl (by decide +kernel) ⟨Nat.le_of_ble_eq_true rfl, Nat.le_of_ble_eq_true rfl⟩) ⟨zPe.blind, zPe.call hN hE hS⟩ rfl rfl hl.1 rfl (lv_room (Nat.le_of_ble_eq_true rfl)) dX0_framesWithin_17 ⟨Nat.zero_le _, Nat.zero_le _⟩).run) (fun r_17 h_17 => ?_)
        have h_17 : r_17 = (zSt md (((nI i) - (nI ky)).toInt % 12).toNat) := h_17
        subst h_17
        rw [show ((zSt md (((nI i) - (nI ky)).toInt % 12).toNat) : Int32) = (zSt md ((i + 12 - ky) % 12)) from (by rw [zW_ix hi12 hk])]
        refine lv_iconst (v := (-1)) hx hb dX0_framesWithin_20 (by decide) ?_
        refine lv_icmp_eq (tgt := 34) hx hb dX0_framesWithin_21 (by decide) (fun c_21 => ?_) (fun c_21 => ?_)
        · refine lv_iinc (v := (nI (i + 1))) (lv' := [(4, .int (nI (i + 1))), (3, .int (zWn md ky z.2.2.2.2.2.2 i)), (0, .ref h), (1, .int (nI ky)), (2, .int (nI md))]) hx hb dX0_framesWithin_34 hl (k := 1) rfl (z_inc i 1) (by decide) rfl (fun ls hl => ?_)
          refine lv_goto (tgt := 5) hx hb dX0_framesWithin_37 (by decide) ?_
          have hl : lv_has ls 5 [(4, .int (nI (i + 1))), (3, .int (zWn md ky z.2.2.2.2.2.2 (i + 1))), (0, .ref h), (1, .int (nI ky)), (2, .int (nI md))] := by
            rw [show ((zWn md ky z.2.2.2.2.2.2 (i + 1)) : Int32) = (zWn md ky z.2.2.2.2.2.2 i) from (zWn_0 ((zSt_neg md hm _ (Nat.mod_lt _ (by decide))).mpr c_21))]
            exact hl
          exact ih (i + 1) (by omega) (by omega) ls (lv_sub hl [1, 0, 2, 3, 4] rfl)
        · refine lv_iload_n hx hb dX0_framesWithin_24 rfl (lv_at hl 0 rfl) ?_
          refine lv_aload_n hx hb dX0_framesWithin_25 rfl (lv_at hl 2 rfl) ?_
          refine va_get (D := D) (ci := 0) (v := .ref (d 6)) (C := RX0) (T := TX0) (N := 12) hx hb hts hiw hown hK hP 0 rfl rfl 6 (by decide) (hts (.fieldLink RX0 28 "TunedWrens" "framesOfSemitone" "[I") (by decide +kernel)) (fun _ h9 => h9) rfl dX0_framesWithin_26 ?_
          refine lv_iload hx hb dX0_framesWithin_29 (lv_at hl 1 rfl) ?_
          refine va_iald hx hb hK hP 7 0 rfl rfl (vp_in_nI hi12 (by decide)) dX0_framesWithin_31 ?_
          refine lv_iadd hx hb dX0_framesWithin_32 ?_
          refine lv_istore_n (lv' := [(3, .int ((zWn md ky z.2.2.2.2.2.2 i) + (z.2.2.2.2.2.2 (nI i).toNatClampNeg))), (4, .int (nI i)), (0, .ref h), (1, .int (nI ky)), (2, .int (nI md))]) hx hb dX0_framesWithin_33 rfl hl (by decide) rfl (fun ls hl => ?_)
          refine lv_iinc (v := (nI (i + 1))) (lv' := [(4, .int (nI (i + 1))), (3, .int ((zWn md ky z.2.2.2.2.2.2 i) + (z.2.2.2.2.2.2 (nI i).toNatClampNeg))), (0, .ref h), (1, .int (nI ky)), (2, .int (nI md))]) hx hb dX0_framesWithin_34 hl (k := 1) rfl (z_inc i 1) (by decide) rfl (fun ls hl => ?_)
          refine lv_goto (tgt := 5) hx hb dX0_framesWithin_37 (by decide) ?_
          have hl : lv_has ls 5 [(4, .int (nI (i + 1))), (3, .int (zWn md ky z.2.2.2.2.2.2 (i + 1))), (0, .ref h), (1, .int (nI ky)), (2, .int (nI md))] := by
            rw [show ((zWn md ky z.2.2.2.2.2.2 (i + 1)) : Int32) = ((zWn md ky z.2.2.2.2.2.2 i) + (z.2.2.2.2.2.2 (nI i).toNatClampNeg)) from (by rw [nI_clamp (by omega)]; exact zWn_1 (fun q => c_21 ((zSt_neg md hm _ (Nat.mod_lt _ (by decide))).mp q)))]
            exact hl
          exact ih (i + 1) (by omega) (by omega) ls (lv_sub hl [1, 0, 2, 3, 4] rfl)
  refine lv_iconst (v := 0) hx hb dX0_framesWithin_0 (by decide) ?_
  refine lv_istore_n (lv' := [(3, .int 0), (0, .ref h), (1, .int (nI ky)), (2, .int (nI md))]) hx hb dX0_framesWithin_1 rfl hl (by decide) rfl (fun ls hl => ?_)
  refine lv_iconst (v := 0) hx hb dX0_framesWithin_2 (by decide) ?_
  refine lv_istore (lv' := [(4, .int 0), (3, .int 0), (0, .ref h), (1, .int (nI ky)), (2, .int (nI md))]) hx hb dX0_framesWithin_3 hl (by decide) rfl (fun ls hl => ?_)
  exact loop 13 0 (by decide) (by decide) ls (lv_sub hl [1, 0, 2, 3, 4] rfl)

set_option maxHeartbeats 4000000 in
set_option maxRecDepth 100000 in
theorem c_X0_rungs (l : Launch) (D : va_G) (N0 : Nat) (cA cL : ClassId) (E : va_W) (h : Nat) (d : Nat → Nat) (z : S7) (c : C5) (hc : okC c) : Met l yX0_rungs wsX0_rungs ({ frames := 4, cells := 0, slots := 0, locals := 89 }) (va_Pc [.ref h] (zPre D N0 cA cL (wX h d cA z c ++ E))) (vp_Si (fun rv => rv = zRc c)) 0 0 (fun _ => False) := by
  refine Met.ofW (cc := cX0_rungs) (maxL := 3) (ret := (some .int)) (by decide) rfl ?_
  intro pr e s m ag below meth cd s₁ B hml hv
  obtain ⟨rfl, hN, hP, hD, hK, hE⟩ := hv
  have hx := B.exec
  have hb := B.bytes
  have hr := B.returns
  have hts := atoms_spec (ws := wsX0_rungs) B.pre
  have hown : s.vm.findClass RX0 = some m.cls := findClass_of_methodNamed B.named
  have hlocks := B.notSynchronized
  have hS : va_S (zA N0) s.heap s.heap [] := va_S.rf
  have hl := lv_entry ([.ref h]) (n := 3) (Nat.le_of_ble_eq_true rfl)
  rw [lg_entry_eq]
  generalize (lg_sl ([.ref h]) ++ List.replicate (3 - (lg_sl ([.ref h])).length) Slot.unset).toArray = ls at hl ⊢
  have hl : lv_has ls 3 [(0, .ref h)] := hl
  have loop : ∀ (n : Nat) (k : Nat), k ≤ 121 → 122 ≤ k + n → ∀ (ls : Array Slot), lv_has ls 3 [(1, .int (zRcn c k)), (2, .int (nI (100 * k))), (0, .ref h)] → W pr l e (headSpec wsX0_rungs ({ frames := 4, cells := 0, slots := 0, locals := 89 })).room s m ([.ref h] : List Value).toArray below meth cd s.heap [] 0 0 (MQ below (vp_Si (fun rv => rv = zRc c)) ([.ref h] : List Value).toArray s 0 0 (fun _ => False)) (F0 m 4 ls []) := by
    intro n
    induction n with
    | zero =>
      intro k hk hn
      omega
    | succ n ih =>
      intro k hk hn ls hl
      refine lv_iload_n hx hb dX0_rungs_4 rfl (lv_at hl 1 rfl) ?_
      refine lv_sipush (v := 12000) hx hb dX0_rungs_5 (by decide) ?_
      refine lv_icmp_gt (tgt := 28) hx hb dX0_rungs_8 (by decide) (fun c_8 => ?_) (fun c_8 => ?_)
      · have hk1 : k = 121 := by have := (nI_ltI (a := 12000) (by decide) (by omega)).mp c_8; omega
        subst hk1
        refine lv_iload_n hx hb dX0_rungs_28 rfl (lv_at hl 0 rfl) ?_
        exact W.iret (v := (zRcn c 121)) hx hb hr (fun t ht hW => ⟨_, rfl, rfl, ht⟩) (fun _ h9 => nomatch h9) dX0_rungs_29
      · have hk1 : k < 121 := by
          rcases Nat.lt_or_ge k 121 with q | q
          · exact q
          · exact absurd ((nI_ltI (a := 12000) (by decide) (by omega)).mpr (by omega)) c_8
        refine lv_aload_n hx hb dX0_rungs_11 rfl (lv_at hl 2 rfl) ?_
        refine lv_iload_n hx hb dX0_rungs_12 rfl (lv_at hl 1 rfl) ?_
        refine vp_callSi ((va_runV (As := [.int (nI (100 * k))]) (rest := []) ⟨hx, hb, hml, hown, hts⟩ (c_X0_isRung l D N0 cA cL E h d z c (nI (100 * k)) hc) (cwV 1 hts gX0_rungs_X0_isRung rfl rfl rfl (by decide +kernel) ⟨Nat.le_of_ble_eq_true rfl, Nat.le_of_ble_eq_true rfl⟩) ⟨zPre.blind, va_recv hK hP (ci := 0) (q0 := 0) rfl rfl, zPre.call hN hP hD hK hE hS⟩ rfl rfl hl.1 rfl (lv_room (Nat.le_of_ble_eq_true rfl)) dX0_rungs_13 ⟨Nat.zero_le _, Nat.zero_le _⟩).run) (fun r_13 h_13 => ?_)
        have h_13 : r_13 = (zb (¬ zStep c (nI (100 * k)) = -1)) := h_13
        subst h_13
        refine lv_if_eq (tgt := 22) hx hb dX0_rungs_16 (by decide) (fun c_16 => ?_) (fun c_16 => ?_)
        · refine lv_iinc (v := (nI (100 * (k + 1)))) (lv' := [(2, .int (nI (100 * (k + 1)))), (1, .int (zRcn c k)), (0, .ref h)]) hx hb dX0_rungs_22 hl (k := 1) rfl (z_inc (100 * k) 100) (by decide) rfl (fun ls hl => ?_)
          refine lv_goto (tgt := 4) hx hb dX0_rungs_25 (by decide) ?_
          have hl : lv_has ls 3 [(2, .int (nI (100 * (k + 1)))), (1, .int (zRcn c (k + 1))), (0, .ref h)] := by
            rw [show ((zRcn c (k + 1)) : Int32) = (zRcn c k) from (zRcn_0 ((zStep_neg hc _).mpr (Decidable.not_not.mp (zb_f c_16))))]
            exact hl
          exact ih (k + 1) (by omega) (by omega) ls (lv_sub hl [1, 0, 2] rfl)
        · refine lv_iinc (v := ((zRcn c k) + 1)) (lv' := [(1, .int ((zRcn c k) + 1)), (2, .int (nI (100 * k))), (0, .ref h)]) hx hb dX0_rungs_19 hl (k := 0) rfl rfl (by decide) rfl (fun ls hl => ?_)
          refine lv_iinc (v := (nI (100 * (k + 1)))) (lv' := [(2, .int (nI (100 * (k + 1)))), (1, .int ((zRcn c k) + 1)), (0, .ref h)]) hx hb dX0_rungs_22 hl (k := 1) rfl (z_inc (100 * k) 100) (by decide) rfl (fun ls hl => ?_)
          refine lv_goto (tgt := 4) hx hb dX0_rungs_25 (by decide) ?_
          have hl : lv_has ls 3 [(2, .int (nI (100 * (k + 1)))), (1, .int (zRcn c (k + 1))), (0, .ref h)] := by
            rw [show ((zRcn c (k + 1)) : Int32) = ((zRcn c k) + 1) from (zRcn_1 (fun q => zb_t c_16 ((zStep_neg hc _).mp q)))]
            exact hl
          exact ih (k + 1) (by omega) (by omega) ls (lv_sub hl [1, 0, 2] rfl)
  refine lv_iconst (v := 0) hx hb dX0_rungs_0 (by decide) ?_
  refine lv_istore_n (lv' := [(1, .int 0), (0, .ref h)]) hx hb dX0_rungs_1 rfl hl (by decide) rfl (fun ls hl => ?_)
  refine lv_iconst (v := 0) hx hb dX0_rungs_2 (by decide) ?_
  refine lv_istore_n (lv' := [(2, .int 0), (1, .int 0), (0, .ref h)]) hx hb dX0_rungs_3 rfl hl (by decide) rfl (fun ls hl => ?_)
  exact loop 122 0 (by decide) (by decide) ls (lv_sub hl [1, 0, 2] rfl)

set_option maxHeartbeats 4000000 in
set_option maxRecDepth 100000 in
theorem c_X0_rung_v (l : Launch) (D : va_G) (N0 : Nat) (cA cL : ClassId) (E : va_W) (h : Nat) (d : Nat → Nat) (z : S7) (c : C5) (num : Int32) (hc : okC c) (hv : ¬ zRg c num < 0) : Met l yX0_rung wsX0_rung ({ frames := 4, cells := 0, slots := 0, locals := 89 }) (va_Pc [.ref h, .int num] (zPre D N0 cA cL (wX h d cA z c ++ E))) (vp_Si (fun rv => rv = zRg c num)) 0 0 (fun _ => False) := by
  refine Met.ofW (cc := cX0_rung) (maxL := 4) (ret := (some .int)) (by decide) rfl ?_
  intro pr e s m ag below meth cd s₁ B hml hv
  obtain ⟨rfl, hN, hP, hD, hK, hE⟩ := hv
  have hx := B.exec
  have hb := B.bytes
  have hr := B.returns
  have hts := atoms_spec (ws := wsX0_rung) B.pre
  have hown : s.vm.findClass RX0 = some m.cls := findClass_of_methodNamed B.named
  have hlocks := B.notSynchronized
  have hS : va_S (zA N0) s.heap s.heap [] := va_S.rf
  have hl := lv_entry ([.ref h, .int num]) (n := 4) (Nat.le_of_ble_eq_true rfl)
  rw [lg_entry_eq]
  generalize (lg_sl ([.ref h, .int num]) ++ List.replicate (4 - (lg_sl ([.ref h, .int num])).length) Slot.unset).toArray = ls at hl ⊢
  have hl : lv_has ls 4 [(0, .ref h), (1, .int num)] := hl
  have loop : ∀ (n : Nat) (k : Nat), k ≤ 121 → 122 ≤ k + n → zRgn c num k = -1 → ∀ (ls : Array Slot), lv_has ls 4 [(2, .int (zRcn c k)), (3, .int (nI (100 * k))), (0, .ref h), (1, .int num)] → W pr l e (headSpec wsX0_rung ({ frames := 4, cells := 0, slots := 0, locals := 89 })).room s m ([.ref h, .int num] : List Value).toArray below meth cd s.heap [] 0 0 (MQ below (vp_Si (fun rv => rv = zRg c num)) ([.ref h, .int num] : List Value).toArray s 0 0 (fun _ => False)) (F0 m 4 ls []) := by
    intro n
    induction n with
    | zero =>
      intro k hk hn hz
      omega
    | succ n ih =>
      intro k hk hn hz ls hl
      refine lv_iload_n hx hb dX0_rung_4 rfl (lv_at hl 1 rfl) ?_
      refine lv_sipush (v := 12000) hx hb dX0_rung_5 (by decide) ?_
      refine lv_icmp_gt (tgt := 35) hx hb dX0_rung_8 (by decide) (fun c_8 => ?_) (fun c_8 => ?_)
      · have hk1 : k = 121 := by have := (nI_ltI (a := 12000) (by decide) (by omega)).mp c_8; omega
        subst hk1
        exact absurd (by rw [show zRg c num = -1 from hz]; decide) hv
      · have hk1 : k < 121 := by
          rcases Nat.lt_or_ge k 121 with q | q
          · exact q
          · exact absurd ((nI_ltI (a := 12000) (by decide) (by omega)).mpr (by omega)) c_8
        refine lv_aload_n hx hb dX0_rung_11 rfl (lv_at hl 2 rfl) ?_
        refine lv_iload_n hx hb dX0_rung_12 rfl (lv_at hl 1 rfl) ?_
        refine vp_callSi ((va_runV (As := [.int (nI (100 * k))]) (rest := []) ⟨hx, hb, hml, hown, hts⟩ (c_X0_isRung l D N0 cA cL E h d z c (nI (100 * k)) hc) (cwV 1 hts gX0_rung_X0_isRung rfl rfl rfl (by decide +kernel) ⟨Nat.le_of_ble_eq_true rfl, Nat.le_of_ble_eq_true rfl⟩) ⟨zPre.blind, va_recv hK hP (ci := 0) (q0 := 0) rfl rfl, zPre.call hN hP hD hK hE hS⟩ rfl rfl hl.1 rfl (lv_room (Nat.le_of_ble_eq_true rfl)) dX0_rung_13 ⟨Nat.zero_le _, Nat.zero_le _⟩).run) (fun r_13 h_13 => ?_)
        have h_13 : r_13 = (zb (¬ zStep c (nI (100 * k)) = -1)) := h_13
        subst h_13
        refine lv_if_eq (tgt := 29) hx hb dX0_rung_16 (by decide) (fun c_16 => ?_) (fun c_16 => ?_)
        · refine lv_iinc (v := (nI (100 * (k + 1)))) (lv' := [(3, .int (nI (100 * (k + 1)))), (2, .int (zRcn c k)), (0, .ref h), (1, .int num)]) hx hb dX0_rung_29 hl (k := 1) rfl (z_inc (100 * k) 100) (by decide) rfl (fun ls hl => ?_)
          refine lv_goto (tgt := 4) hx hb dX0_rung_32 (by decide) ?_
          have hl : lv_has ls 4 [(3, .int (nI (100 * (k + 1)))), (2, .int (zRcn c (k + 1))), (0, .ref h), (1, .int num)] := by
            rw [show ((zRcn c (k + 1)) : Int32) = (zRcn c k) from (zRcn_0 ((zStep_neg hc _).mpr (Decidable.not_not.mp (zb_f c_16))))]
            exact hl
          exact ih (k + 1) (by omega) (by omega) (zRgn_0 (fun q => q.1 ((zStep_neg hc _).mpr (Decidable.not_not.mp (zb_f c_16)))) hz) ls (lv_sub hl [1, 0, 2, 3] rfl)
        · refine lv_iload_n hx hb dX0_rung_19 rfl (lv_at hl 0 rfl) ?_
          refine lv_iload_n hx hb dX0_rung_20 rfl (lv_at hl 3 rfl) ?_
          refine lv_icmp_ne (tgt := 26) hx hb dX0_rung_21 (by decide) (fun c_21 => ?_) (fun c_21 => ?_)
          · refine lv_iinc (v := ((zRcn c k) + 1)) (lv' := [(2, .int ((zRcn c k) + 1)), (3, .int (nI (100 * k))), (0, .ref h), (1, .int num)]) hx hb dX0_rung_26 hl (k := 0) rfl rfl (by decide) rfl (fun ls hl => ?_)
            refine lv_iinc (v := (nI (100 * (k + 1)))) (lv' := [(3, .int (nI (100 * (k + 1)))), (2, .int ((zRcn c k) + 1)), (0, .ref h), (1, .int num)]) hx hb dX0_rung_29 hl (k := 1) rfl (z_inc (100 * k) 100) (by decide) rfl (fun ls hl => ?_)
            refine lv_goto (tgt := 4) hx hb dX0_rung_32 (by decide) ?_
            have hl : lv_has ls 4 [(3, .int (nI (100 * (k + 1)))), (2, .int (zRcn c (k + 1))), (0, .ref h), (1, .int num)] := by
              rw [show ((zRcn c (k + 1)) : Int32) = ((zRcn c k) + 1) from (zRcn_1 (fun q => zb_t c_16 ((zStep_neg hc _).mp q)))]
              exact hl
            exact ih (k + 1) (by omega) (by omega) (zRgn_0 (fun q => c_21 q.2.symm) hz) ls (lv_sub hl [1, 0, 2, 3] rfl)
          · refine lv_iload_n hx hb dX0_rung_24 rfl (lv_at hl 1 rfl) ?_
            exact W.iret (v := (nI (100 * k))) hx hb hr (fun t ht hW => ⟨_, rfl, (zRg_hit hk1 (fun q => zb_t c_16 ((zStep_neg hc _).mp q)) c_21.symm).symm, ht⟩) (fun _ h9 => nomatch h9) dX0_rung_25
  refine lv_iconst (v := 0) hx hb dX0_rung_0 (by decide) ?_
  refine lv_istore_n (lv' := [(2, .int 0), (0, .ref h), (1, .int num)]) hx hb dX0_rung_1 rfl hl (by decide) rfl (fun ls hl => ?_)
  refine lv_iconst (v := 0) hx hb dX0_rung_2 (by decide) ?_
  refine lv_istore_n (lv' := [(3, .int 0), (2, .int 0), (0, .ref h), (1, .int num)]) hx hb dX0_rung_3 rfl hl (by decide) rfl (fun ls hl => ?_)
  exact loop 122 0 (by decide) (by decide) rfl ls (lv_sub hl [1, 0, 2, 3] rfl)

set_option maxHeartbeats 4000000 in
set_option maxRecDepth 100000 in
theorem c_X0_inOctaves (l : Launch) (D : va_G) (N0 : Nat) (cA cL : ClassId) (E : va_W) (h : Nat) (d : Nat → Nat) (z : S7) (c : C5) : Met l yX0_inOctaves wsX0_inOctaves ({ frames := 1, cells := 0, slots := 0, locals := 21 }) (va_Pc [.ref h] (zPre D N0 cA cL (wX h d cA z c ++ E))) (vp_Si (fun rv => rv = zIO z.1)) 0 0 (fun _ => False) := by
  refine Met.ofW (cc := cX0_inOctaves) (maxL := 4) (ret := (some .int)) (by decide) rfl ?_
  intro pr e s m ag below meth cd s₁ B hml hv
  obtain ⟨rfl, hN, hP, hD, hK, hE⟩ := hv
  have hx := B.exec
  have hb := B.bytes
  have hr := B.returns
  have hts := atoms_spec (ws := wsX0_inOctaves) B.pre
  have hown : s.vm.findClass RX0 = some m.cls := findClass_of_methodNamed B.named
  have hlocks := B.notSynchronized
  have hS : va_S (zA N0) s.heap s.heap [] := va_S.rf
  have hiw : ∀ w ∈ u_ws RX0 TX0 12, w ∈ wsX0_inOctaves := by decide +kernel
  have hl := lv_entry ([.ref h]) (n := 4) (Nat.le_of_ble_eq_true rfl)
  rw [lg_entry_eq]
  generalize (lg_sl ([.ref h]) ++ List.replicate (4 - (lg_sl ([.ref h])).length) Slot.unset).toArray = ls at hl ⊢
  have hl : lv_has ls 4 [(0, .ref h)] := hl
  have bk : ∀ (i j : Nat) (x : Int32), i < 4 → j < 4 → (∀ (ls : Array Slot), lv_has ls 4 [(1, .int (x + zb (zOct (z.1 i) (z.1 j)))), (3, .int (nI (j + 1))), (2, .int (nI i)), (0, .ref h)] → W pr l e (headSpec wsX0_inOctaves ({ frames := 1, cells := 0, slots := 0, locals := 21 })).room s m ([.ref h] : List Value).toArray below meth cd s.heap [] 0 0 (MQ below (vp_Si (fun rv => rv = zIO z.1)) ([.ref h] : List Value).toArray s 0 0 (fun _ => False)) (F0 m 13 ls [])) → ∀ (ls : Array Slot), lv_has ls 4 [(1, .int x), (3, .int (nI j)), (2, .int (nI i)), (0, .ref h)] → W pr l e (headSpec wsX0_inOctaves ({ frames := 1, cells := 0, slots := 0, locals := 21 })).room s m ([.ref h] : List Value).toArray below meth cd s.heap [] 0 0 (MQ below (vp_Si (fun rv => rv = zIO z.1)) ([.ref h] : List Value).toArray s 0 0 (fun _ => False)) (F0 m 18 ls []) := by
    intro i j x hi hj kk ls hl
    refine lv_aload_n hx hb dX0_inOctaves_18 rfl (lv_at hl 3 rfl) ?_
    refine va_get (D := D) (ci := 0) (v := .ref (d 0)) (C := RX0) (T := TX0) (N := 12) hx hb hts hiw hown hK hP 0 rfl rfl 0 (by decide) (hts (.fieldLink RX0 9 "TunedWrens" "rungOfWren" "[I") (by decide +kernel)) (fun _ h9 => h9) rfl dX0_inOctaves_19 ?_
    refine lv_iload_n hx hb dX0_inOctaves_22 rfl (lv_at hl 2 rfl) ?_
    refine va_iald hx hb hK hP 1 0 rfl rfl (vp_in_nI hi (by decide)) dX0_inOctaves_23 ?_
    rw [show ((z.1 (nI i).toNatClampNeg) : Int32) = (z.1 i) from (by rw [nI_clamp (by omega)])]
    refine lv_aload_n hx hb dX0_inOctaves_24 rfl (lv_at hl 3 rfl) ?_
    refine va_get (D := D) (ci := 0) (v := .ref (d 0)) (C := RX0) (T := TX0) (N := 12) hx hb hts hiw hown hK hP 0 rfl rfl 0 (by decide) (hts (.fieldLink RX0 9 "TunedWrens" "rungOfWren" "[I") (by decide +kernel)) (fun _ h9 => h9) rfl dX0_inOctaves_25 ?_
    refine lv_iload_n hx hb dX0_inOctaves_28 rfl (lv_at hl 1 rfl) ?_
    refine va_iald hx hb hK hP 1 0 rfl rfl (vp_in_nI hj (by decide)) dX0_inOctaves_29 ?_
    rw [show ((z.1 (nI j).toNatClampNeg) : Int32) = (z.1 j) from (by rw [nI_clamp (by omega)])]
    refine vp_callSi ((va_runS (As := [.int (z.1 i), .int (z.1 j)]) (rest := []) ⟨hx, hb, hml, hown, hts⟩ (c_X0_areInOctaves l (z.1 i) (z.1 j)) (va_cwS 2 hts gX0_inOctaves_X0_areInOctaves rfl rfl rfl (by decide +kernel) ⟨Nat.le_of_ble_eq_true rfl, Nat.le_of_ble_eq_true rfl⟩) ⟨zT.blind, zT.call⟩ rfl rfl hl.1 rfl (lv_room (Nat.le_of_ble_eq_true rfl)) dX0_inOctaves_30 ⟨Nat.zero_le _, Nat.zero_le _⟩).run) (fun r_30 h_30 => ?_)
    have h_30 : r_30 = (zb (zOct (z.1 i) (z.1 j))) := h_30
    subst h_30
    refine lv_if_eq (tgt := 39) hx hb dX0_inOctaves_33 (by decide) (fun c_33 => ?_) (fun c_33 => ?_)
    · refine lv_iinc (v := (nI (j + 1))) (lv' := [(3, .int (nI (j + 1))), (1, .int x), (2, .int (nI i)), (0, .ref h)]) hx hb dX0_inOctaves_39 hl (k := 1) rfl (z_inc j 1) (by decide) rfl (fun ls hl => ?_)
      refine lv_goto (tgt := 13) hx hb dX0_inOctaves_42 (by decide) ?_
      have hl : lv_has ls 4 [(3, .int (nI (j + 1))), (1, .int (x + zb (zOct (z.1 i) (z.1 j)))), (2, .int (nI i)), (0, .ref h)] := by
        rw [show ((x + zb (zOct (z.1 i) (z.1 j))) : Int32) = x from (by rw [zb_0 (zb_f c_33), Int32.add_zero])]
        exact hl
      exact kk ls (lv_sub hl [1, 0, 2, 3] rfl)
    · refine lv_iinc (v := (x + 1)) (lv' := [(1, .int (x + 1)), (3, .int (nI j)), (2, .int (nI i)), (0, .ref h)]) hx hb dX0_inOctaves_36 hl (k := 0) rfl rfl (by decide) rfl (fun ls hl => ?_)
      refine lv_iinc (v := (nI (j + 1))) (lv' := [(3, .int (nI (j + 1))), (1, .int (x + 1)), (2, .int (nI i)), (0, .ref h)]) hx hb dX0_inOctaves_39 hl (k := 1) rfl (z_inc j 1) (by decide) rfl (fun ls hl => ?_)
      refine lv_goto (tgt := 13) hx hb dX0_inOctaves_42 (by decide) ?_
      have hl : lv_has ls 4 [(3, .int (nI (j + 1))), (1, .int (x + zb (zOct (z.1 i) (z.1 j)))), (2, .int (nI i)), (0, .ref h)] := by
        rw [show ((x + zb (zOct (z.1 i) (z.1 j))) : Int32) = (x + 1) from (by rw [zb_1 (zb_t c_33)])]
        exact hl
      exact kk ls (lv_sub hl [1, 0, 2, 3] rfl)
  refine lv_iconst (v := 0) hx hb dX0_inOctaves_0 (by decide) ?_
  refine lv_istore_n (lv' := [(1, .int 0), (0, .ref h)]) hx hb dX0_inOctaves_1 rfl hl (by decide) rfl (fun ls hl => ?_)
  refine lv_iconst (v := 0) hx hb dX0_inOctaves_2 (by decide) ?_
  refine lv_istore_n (lv' := [(2, .int 0), (1, .int 0), (0, .ref h)]) hx hb dX0_inOctaves_3 rfl hl (by decide) rfl (fun ls hl => ?_)
  refine lv_iload_n hx hb dX0_inOctaves_4 rfl (lv_at hl 0 rfl) ?_
  refine lv_iconst (v := 4) hx hb dX0_inOctaves_5 (by decide) ?_
  refine lv_icmp_ge (tgt := 51) hx hb dX0_inOctaves_6 (by decide) (fun c_6 => absurd c_6 (by decide)) (fun _ => ?_)
  refine lv_iload_n hx hb dX0_inOctaves_9 rfl (lv_at hl 0 rfl) ?_
  refine lv_iconst (v := 1) hx hb dX0_inOctaves_10 (by decide) ?_
  refine lv_iadd hx hb dX0_inOctaves_11 ?_
  rw [show ((0 + 1) : Int32) = 1 from rfl]
  refine lv_istore_n (lv' := [(3, .int 1), (2, .int 0), (1, .int 0), (0, .ref h)]) hx hb dX0_inOctaves_12 rfl hl (by decide) rfl (fun ls hl => ?_)
  refine lv_iload_n hx hb dX0_inOctaves_13 rfl (lv_at hl 0 rfl) ?_
  refine lv_iconst (v := 4) hx hb dX0_inOctaves_14 (by decide) ?_
  refine lv_icmp_ge (tgt := 45) hx hb dX0_inOctaves_15 (by decide) (fun c_15 => absurd c_15 (by decide)) (fun _ => ?_)
  refine bk 0 1 0 (by decide) (by decide) (fun ls hl => ?_) ls (lv_sub hl [2, 0, 1, 3] rfl)
  have hl : lv_has ls 4 [(1, .int (0 + zb (zOct (z.1 0) (z.1 1)))), (3, .int 2), (2, .int 0), (0, .ref h)] := hl
  refine lv_iload_n hx hb dX0_inOctaves_13 rfl (lv_at hl 1 rfl) ?_
  refine lv_iconst (v := 4) hx hb dX0_inOctaves_14 (by decide) ?_
  refine lv_icmp_ge (tgt := 45) hx hb dX0_inOctaves_15 (by decide) (fun c_15 => absurd c_15 (by decide)) (fun _ => ?_)
  refine bk 0 2 (0 + zb (zOct (z.1 0) (z.1 1))) (by decide) (by decide) (fun ls hl => ?_) ls (lv_sub hl [0, 1, 2, 3] rfl)
  have hl : lv_has ls 4 [(1, .int ((0 + zb (zOct (z.1 0) (z.1 1))) + zb (zOct (z.1 0) (z.1 2)))), (3, .int 3), (2, .int 0), (0, .ref h)] := hl
  refine lv_iload_n hx hb dX0_inOctaves_13 rfl (lv_at hl 1 rfl) ?_
  refine lv_iconst (v := 4) hx hb dX0_inOctaves_14 (by decide) ?_
  refine lv_icmp_ge (tgt := 45) hx hb dX0_inOctaves_15 (by decide) (fun c_15 => absurd c_15 (by decide)) (fun _ => ?_)
  refine bk 0 3 ((0 + zb (zOct (z.1 0) (z.1 1))) + zb (zOct (z.1 0) (z.1 2))) (by decide) (by decide) (fun ls hl => ?_) ls (lv_sub hl [0, 1, 2, 3] rfl)
  have hl : lv_has ls 4 [(1, .int (((0 + zb (zOct (z.1 0) (z.1 1))) + zb (zOct (z.1 0) (z.1 2))) + zb (zOct (z.1 0) (z.1 3)))), (3, .int 4), (2, .int 0), (0, .ref h)] := hl
  refine lv_iload_n hx hb dX0_inOctaves_13 rfl (lv_at hl 1 rfl) ?_
  refine lv_iconst (v := 4) hx hb dX0_inOctaves_14 (by decide) ?_
  refine lv_icmp_ge (tgt := 45) hx hb dX0_inOctaves_15 (by decide) (fun _ => ?_) (fun c_15 => absurd c_15 (by decide))
  refine lv_iinc (v := 1) (lv' := [(2, .int 1), (1, .int (((0 + zb (zOct (z.1 0) (z.1 1))) + zb (zOct (z.1 0) (z.1 2))) + zb (zOct (z.1 0) (z.1 3)))), (3, .int 4), (0, .ref h)]) hx hb dX0_inOctaves_45 hl (k := 2) rfl rfl (by decide) rfl (fun ls hl => ?_)
  refine lv_goto (tgt := 4) hx hb dX0_inOctaves_48 (by decide) ?_
  refine lv_iload_n hx hb dX0_inOctaves_4 rfl (lv_at hl 0 rfl) ?_
  refine lv_iconst (v := 4) hx hb dX0_inOctaves_5 (by decide) ?_
  refine lv_icmp_ge (tgt := 51) hx hb dX0_inOctaves_6 (by decide) (fun c_6 => absurd c_6 (by decide)) (fun _ => ?_)
  refine lv_iload_n hx hb dX0_inOctaves_9 rfl (lv_at hl 0 rfl) ?_
  refine lv_iconst (v := 1) hx hb dX0_inOctaves_10 (by decide) ?_
  refine lv_iadd hx hb dX0_inOctaves_11 ?_
  rw [show ((1 + 1) : Int32) = 2 from rfl]
  refine lv_istore_n (lv' := [(3, .int 2), (2, .int 1), (1, .int (((0 + zb (zOct (z.1 0) (z.1 1))) + zb (zOct (z.1 0) (z.1 2))) + zb (zOct (z.1 0) (z.1 3)))), (0, .ref h)]) hx hb dX0_inOctaves_12 rfl hl (by decide) rfl (fun ls hl => ?_)
  refine lv_iload_n hx hb dX0_inOctaves_13 rfl (lv_at hl 0 rfl) ?_
  refine lv_iconst (v := 4) hx hb dX0_inOctaves_14 (by decide) ?_
  refine lv_icmp_ge (tgt := 45) hx hb dX0_inOctaves_15 (by decide) (fun c_15 => absurd c_15 (by decide)) (fun _ => ?_)
  refine bk 1 2 (((0 + zb (zOct (z.1 0) (z.1 1))) + zb (zOct (z.1 0) (z.1 2))) + zb (zOct (z.1 0) (z.1 3))) (by decide) (by decide) (fun ls hl => ?_) ls (lv_sub hl [2, 0, 1, 3] rfl)
  have hl : lv_has ls 4 [(1, .int ((((0 + zb (zOct (z.1 0) (z.1 1))) + zb (zOct (z.1 0) (z.1 2))) + zb (zOct (z.1 0) (z.1 3))) + zb (zOct (z.1 1) (z.1 2)))), (3, .int 3), (2, .int 1), (0, .ref h)] := hl
  refine lv_iload_n hx hb dX0_inOctaves_13 rfl (lv_at hl 1 rfl) ?_
  refine lv_iconst (v := 4) hx hb dX0_inOctaves_14 (by decide) ?_
  refine lv_icmp_ge (tgt := 45) hx hb dX0_inOctaves_15 (by decide) (fun c_15 => absurd c_15 (by decide)) (fun _ => ?_)
  refine bk 1 3 ((((0 + zb (zOct (z.1 0) (z.1 1))) + zb (zOct (z.1 0) (z.1 2))) + zb (zOct (z.1 0) (z.1 3))) + zb (zOct (z.1 1) (z.1 2))) (by decide) (by decide) (fun ls hl => ?_) ls (lv_sub hl [0, 1, 2, 3] rfl)
  have hl : lv_has ls 4 [(1, .int (((((0 + zb (zOct (z.1 0) (z.1 1))) + zb (zOct (z.1 0) (z.1 2))) + zb (zOct (z.1 0) (z.1 3))) + zb (zOct (z.1 1) (z.1 2))) + zb (zOct (z.1 1) (z.1 3)))), (3, .int 4), (2, .int 1), (0, .ref h)] := hl
  refine lv_iload_n hx hb dX0_inOctaves_13 rfl (lv_at hl 1 rfl) ?_
  refine lv_iconst (v := 4) hx hb dX0_inOctaves_14 (by decide) ?_
  refine lv_icmp_ge (tgt := 45) hx hb dX0_inOctaves_15 (by decide) (fun _ => ?_) (fun c_15 => absurd c_15 (by decide))
  refine lv_iinc (v := 2) (lv' := [(2, .int 2), (1, .int (((((0 + zb (zOct (z.1 0) (z.1 1))) + zb (zOct (z.1 0) (z.1 2))) + zb (zOct (z.1 0) (z.1 3))) + zb (zOct (z.1 1) (z.1 2))) + zb (zOct (z.1 1) (z.1 3)))), (3, .int 4), (0, .ref h)]) hx hb dX0_inOctaves_45 hl (k := 2) rfl rfl (by decide) rfl (fun ls hl => ?_)
  refine lv_goto (tgt := 4) hx hb dX0_inOctaves_48 (by decide) ?_
  refine lv_iload_n hx hb dX0_inOctaves_4 rfl (lv_at hl 0 rfl) ?_
  refine lv_iconst (v := 4) hx hb dX0_inOctaves_5 (by decide) ?_
  refine lv_icmp_ge (tgt := 51) hx hb dX0_inOctaves_6 (by decide) (fun c_6 => absurd c_6 (by decide)) (fun _ => ?_)
  refine lv_iload_n hx hb dX0_inOctaves_9 rfl (lv_at hl 0 rfl) ?_
  refine lv_iconst (v := 1) hx hb dX0_inOctaves_10 (by decide) ?_
  refine lv_iadd hx hb dX0_inOctaves_11 ?_
  rw [show ((2 + 1) : Int32) = 3 from rfl]
  refine lv_istore_n (lv' := [(3, .int 3), (2, .int 2), (1, .int (((((0 + zb (zOct (z.1 0) (z.1 1))) + zb (zOct (z.1 0) (z.1 2))) + zb (zOct (z.1 0) (z.1 3))) + zb (zOct (z.1 1) (z.1 2))) + zb (zOct (z.1 1) (z.1 3)))), (0, .ref h)]) hx hb dX0_inOctaves_12 rfl hl (by decide) rfl (fun ls hl => ?_)
  refine lv_iload_n hx hb dX0_inOctaves_13 rfl (lv_at hl 0 rfl) ?_
  refine lv_iconst (v := 4) hx hb dX0_inOctaves_14 (by decide) ?_
  refine lv_icmp_ge (tgt := 45) hx hb dX0_inOctaves_15 (by decide) (fun c_15 => absurd c_15 (by decide)) (fun _ => ?_)
  refine bk 2 3 (((((0 + zb (zOct (z.1 0) (z.1 1))) + zb (zOct (z.1 0) (z.1 2))) + zb (zOct (z.1 0) (z.1 3))) + zb (zOct (z.1 1) (z.1 2))) + zb (zOct (z.1 1) (z.1 3))) (by decide) (by decide) (fun ls hl => ?_) ls (lv_sub hl [2, 0, 1, 3] rfl)
  have hl : lv_has ls 4 [(1, .int ((((((0 + zb (zOct (z.1 0) (z.1 1))) + zb (zOct (z.1 0) (z.1 2))) + zb (zOct (z.1 0) (z.1 3))) + zb (zOct (z.1 1) (z.1 2))) + zb (zOct (z.1 1) (z.1 3))) + zb (zOct (z.1 2) (z.1 3)))), (3, .int 4), (2, .int 2), (0, .ref h)] := hl
  refine lv_iload_n hx hb dX0_inOctaves_13 rfl (lv_at hl 1 rfl) ?_
  refine lv_iconst (v := 4) hx hb dX0_inOctaves_14 (by decide) ?_
  refine lv_icmp_ge (tgt := 45) hx hb dX0_inOctaves_15 (by decide) (fun _ => ?_) (fun c_15 => absurd c_15 (by decide))
  refine lv_iinc (v := 3) (lv' := [(2, .int 3), (1, .int ((((((0 + zb (zOct (z.1 0) (z.1 1))) + zb (zOct (z.1 0) (z.1 2))) + zb (zOct (z.1 0) (z.1 3))) + zb (zOct (z.1 1) (z.1 2))) + zb (zOct (z.1 1) (z.1 3))) + zb (zOct (z.1 2) (z.1 3)))), (3, .int 4), (0, .ref h)]) hx hb dX0_inOctaves_45 hl (k := 2) rfl rfl (by decide) rfl (fun ls hl => ?_)
  refine lv_goto (tgt := 4) hx hb dX0_inOctaves_48 (by decide) ?_
  refine lv_iload_n hx hb dX0_inOctaves_4 rfl (lv_at hl 0 rfl) ?_
  refine lv_iconst (v := 4) hx hb dX0_inOctaves_5 (by decide) ?_
  refine lv_icmp_ge (tgt := 51) hx hb dX0_inOctaves_6 (by decide) (fun c_6 => absurd c_6 (by decide)) (fun _ => ?_)
  refine lv_iload_n hx hb dX0_inOctaves_9 rfl (lv_at hl 0 rfl) ?_
  refine lv_iconst (v := 1) hx hb dX0_inOctaves_10 (by decide) ?_
  refine lv_iadd hx hb dX0_inOctaves_11 ?_
  rw [show ((3 + 1) : Int32) = 4 from rfl]
  refine lv_istore_n (lv' := [(3, .int 4), (2, .int 3), (1, .int ((((((0 + zb (zOct (z.1 0) (z.1 1))) + zb (zOct (z.1 0) (z.1 2))) + zb (zOct (z.1 0) (z.1 3))) + zb (zOct (z.1 1) (z.1 2))) + zb (zOct (z.1 1) (z.1 3))) + zb (zOct (z.1 2) (z.1 3)))), (0, .ref h)]) hx hb dX0_inOctaves_12 rfl hl (by decide) rfl (fun ls hl => ?_)
  refine lv_iload_n hx hb dX0_inOctaves_13 rfl (lv_at hl 0 rfl) ?_
  refine lv_iconst (v := 4) hx hb dX0_inOctaves_14 (by decide) ?_
  refine lv_icmp_ge (tgt := 45) hx hb dX0_inOctaves_15 (by decide) (fun _ => ?_) (fun c_15 => absurd c_15 (by decide))
  refine lv_iinc (v := 4) (lv' := [(2, .int 4), (3, .int 4), (1, .int ((((((0 + zb (zOct (z.1 0) (z.1 1))) + zb (zOct (z.1 0) (z.1 2))) + zb (zOct (z.1 0) (z.1 3))) + zb (zOct (z.1 1) (z.1 2))) + zb (zOct (z.1 1) (z.1 3))) + zb (zOct (z.1 2) (z.1 3)))), (0, .ref h)]) hx hb dX0_inOctaves_45 hl (k := 1) rfl rfl (by decide) rfl (fun ls hl => ?_)
  refine lv_goto (tgt := 4) hx hb dX0_inOctaves_48 (by decide) ?_
  refine lv_iload_n hx hb dX0_inOctaves_4 rfl (lv_at hl 0 rfl) ?_
  refine lv_iconst (v := 4) hx hb dX0_inOctaves_5 (by decide) ?_
  refine lv_icmp_ge (tgt := 51) hx hb dX0_inOctaves_6 (by decide) (fun _ => ?_) (fun c_6 => absurd c_6 (by decide))
  refine lv_iload_n hx hb dX0_inOctaves_51 rfl (lv_at hl 2 rfl) ?_
  exact W.iret (v := ((((((0 + zb (zOct (z.1 0) (z.1 1))) + zb (zOct (z.1 0) (z.1 2))) + zb (zOct (z.1 0) (z.1 3))) + zb (zOct (z.1 1) (z.1 2))) + zb (zOct (z.1 1) (z.1 3))) + zb (zOct (z.1 2) (z.1 3)))) hx hb hr (fun t ht hW => ⟨_, rfl, rfl, ht⟩) (fun _ h9 => nomatch h9) dX0_inOctaves_52

set_option maxHeartbeats 4000000 in
set_option maxRecDepth 100000 in
theorem c_X0_nearest_v (l : Launch) (D : va_G) (N0 : Nat) (cA cL : ClassId) (E : va_W) (h : Nat) (d : Nat → Nat) (z : S7) (c : C5) (p : Int32) (hc : okC c) (hp : zp p) : Met l yX0_nearest wsX0_nearest ({ frames := 5, cells := 0, slots := 0, locals := 113 }) (va_Pc [.ref h, .int p] (zPre D N0 cA cL (wX h d cA z c ++ E))) (vp_Si (fun rv => rv = zNear c p)) 0 0 (fun _ => False) := by
  refine Met.ofW (cc := cX0_nearest) (maxL := 2) (ret := (some .int)) (by decide) rfl ?_
  intro pr e s m ag below meth cd s₁ B hml hv
  obtain ⟨rfl, hN, hP, hD, hK, hE⟩ := hv
  have hx := B.exec
  have hb := B.bytes
  have hr := B.returns
  have hts := atoms_spec (ws := wsX0_nearest) B.pre
  have hown : s.vm.findClass RX0 = some m.cls := findClass_of_methodNamed B.named
  have hlocks := B.notSynchronized
  have hS : va_S (zA N0) s.heap s.heap [] := va_S.rf
  have hl := lv_entry ([.ref h, .int p]) (n := 2) (Nat.le_of_ble_eq_true rfl)
  rw [lg_entry_eq]
  generalize (lg_sl ([.ref h, .int p]) ++ List.replicate (2 - (lg_sl ([.ref h, .int p])).length) Slot.unset).toArray = ls at hl ⊢
  have hl : lv_has ls 2 [(0, .ref h), (1, .int p)] := hl
  refine lv_iload_n hx hb dX0_nearest_0 rfl (lv_at hl 1 rfl) ?_
  refine va_csv ((va_runS (As := [.int p]) (rest := []) ⟨hx, hb, hml, hown, hts⟩ (c_X0_requirePitch_v l p hp) (va_cwS 1 hts gX0_nearest_X0_requirePitch rfl rfl rfl (by decide +kernel) ⟨Nat.le_of_ble_eq_true rfl, Nat.le_of_ble_eq_true rfl⟩) ⟨zT.blind, zT.call⟩ rfl rfl hl.1 rfl (lv_room (Nat.le_of_ble_eq_true rfl)) dX0_nearest_1 ⟨Nat.zero_le _, Nat.zero_le _⟩).run) (fun _ => ?_)
  refine lv_aload_n hx hb dX0_nearest_4 rfl (lv_at hl 0 rfl) ?_
  refine lv_iload_n hx hb dX0_nearest_5 rfl (lv_at hl 1 rfl) ?_
  refine vp_callSi ((va_runV (As := [.int p]) (rest := []) ⟨hx, hb, hml, hown, hts⟩ (c_X0_nearestRung l D N0 cA cL E h d z c p hc hp) (cwV 1 hts gX0_nearest_X0_nearestRung rfl rfl rfl (by decide +kernel) ⟨Nat.le_of_ble_eq_true rfl, Nat.le_of_ble_eq_true rfl⟩) ⟨zPre.blind, va_recv hK hP (ci := 0) (q0 := 0) rfl rfl, zPre.call hN hP hD hK hE hS⟩ rfl rfl hl.1 rfl (lv_room (Nat.le_of_ble_eq_true rfl)) dX0_nearest_6 ⟨Nat.zero_le _, Nat.zero_le _⟩).run) (fun r_6 h_6 => ?_)
  have h_6 : r_6 = (zNear c p) := h_6
  subst h_6
  exact W.iret (v := (zNear c p)) hx hb hr (fun t ht hW => ⟨_, rfl, rfl, ht⟩) (fun _ h9 => nomatch h9) dX0_nearest_9

set_option maxHeartbeats 4000000 in
set_option maxRecDepth 100000 in
theorem c_X0_stepOf_v (l : Launch) (D : va_G) (N0 : Nat) (cA cL : ClassId) (E : va_W) (h : Nat) (d : Nat → Nat) (z : S7) (c : C5) (p : Int32) (hc : okC c) (hp : zp p) : Met l yX0_stepOf wsX0_stepOf ({ frames := 3, cells := 0, slots := 0, locals := 68 }) (va_Pc [.ref h, .int p] (zPre D N0 cA cL (wX h d cA z c ++ E))) (vp_Si (fun rv => rv = zStep c p)) 0 0 (fun _ => False) := by
  refine Met.ofW (cc := cX0_stepOf) (maxL := 2) (ret := (some .int)) (by decide) rfl ?_
  intro pr e s m ag below meth cd s₁ B hml hv
  obtain ⟨rfl, hN, hP, hD, hK, hE⟩ := hv
  have hx := B.exec
  have hb := B.bytes
  have hr := B.returns
  have hts := atoms_spec (ws := wsX0_stepOf) B.pre
  have hown : s.vm.findClass RX0 = some m.cls := findClass_of_methodNamed B.named
  have hlocks := B.notSynchronized
  have hS : va_S (zA N0) s.heap s.heap [] := va_S.rf
  have hl := lv_entry ([.ref h, .int p]) (n := 2) (Nat.le_of_ble_eq_true rfl)
  rw [lg_entry_eq]
  generalize (lg_sl ([.ref h, .int p]) ++ List.replicate (2 - (lg_sl ([.ref h, .int p])).length) Slot.unset).toArray = ls at hl ⊢
  have hl : lv_has ls 2 [(0, .ref h), (1, .int p)] := hl
  refine lv_iload_n hx hb dX0_stepOf_0 rfl (lv_at hl 1 rfl) ?_
  refine va_csv ((va_runS (As := [.int p]) (rest := []) ⟨hx, hb, hml, hown, hts⟩ (c_X0_requirePitch_v l p hp) (va_cwS 1 hts gX0_stepOf_X0_requirePitch rfl rfl rfl (by decide +kernel) ⟨Nat.le_of_ble_eq_true rfl, Nat.le_of_ble_eq_true rfl⟩) ⟨zT.blind, zT.call⟩ rfl rfl hl.1 rfl (lv_room (Nat.le_of_ble_eq_true rfl)) dX0_stepOf_1 ⟨Nat.zero_le _, Nat.zero_le _⟩).run) (fun _ => ?_)
  refine lv_aload_n hx hb dX0_stepOf_4 rfl (lv_at hl 0 rfl) ?_
  refine lv_iload_n hx hb dX0_stepOf_5 rfl (lv_at hl 1 rfl) ?_
  refine vp_callSi ((va_runV (As := [.int p]) (rest := []) ⟨hx, hb, hml, hown, hts⟩ (c_X0_stepAt l D N0 cA cL E h d z c p hc) (cwV 1 hts gX0_stepOf_X0_stepAt rfl rfl rfl (by decide +kernel) ⟨Nat.le_of_ble_eq_true rfl, Nat.le_of_ble_eq_true rfl⟩) ⟨zPre.blind, va_recv hK hP (ci := 0) (q0 := 0) rfl rfl, zPre.call hN hP hD hK hE hS⟩ rfl rfl hl.1 rfl (lv_room (Nat.le_of_ble_eq_true rfl)) dX0_stepOf_6 ⟨Nat.zero_le _, Nat.zero_le _⟩).run) (fun r_6 h_6 => ?_)
  have h_6 : r_6 = (zStep c p) := h_6
  subst h_6
  exact W.iret (v := (zStep c p)) hx hb hr (fun t ht hW => ⟨_, rfl, rfl, ht⟩) (fun _ h9 => nomatch h9) dX0_stepOf_9

set_option maxHeartbeats 4000000 in
set_option maxRecDepth 100000 in
theorem c_X0_rungOf_v (l : Launch) (D : va_G) (N0 : Nat) (cA cL : ClassId) (E : va_W) (h : Nat) (d : Nat → Nat) (z : S7) (c : C5) (w : Int32) (hw : zw w) : Met l yX0_rungOf wsX0_rungOf ({ frames := 1, cells := 0, slots := 0, locals := 20 }) (va_Pc [.ref h, .int w] (zPre D N0 cA cL (wX h d cA z c ++ E))) (vp_Si (fun rv => rv = z.1 w.toNatClampNeg)) 0 0 (fun _ => False) := by
  refine Met.ofW (cc := cX0_rungOf) (maxL := 2) (ret := (some .int)) (by decide) rfl ?_
  intro pr e s m ag below meth cd s₁ B hml hv
  obtain ⟨rfl, hN, hP, hD, hK, hE⟩ := hv
  have hx := B.exec
  have hb := B.bytes
  have hr := B.returns
  have hts := atoms_spec (ws := wsX0_rungOf) B.pre
  have hown : s.vm.findClass RX0 = some m.cls := findClass_of_methodNamed B.named
  have hlocks := B.notSynchronized
  have hS : va_S (zA N0) s.heap s.heap [] := va_S.rf
  have hiw : ∀ w ∈ u_ws RX0 TX0 12, w ∈ wsX0_rungOf := by decide +kernel
  have hl := lv_entry ([.ref h, .int w]) (n := 2) (Nat.le_of_ble_eq_true rfl)
  rw [lg_entry_eq]
  generalize (lg_sl ([.ref h, .int w]) ++ List.replicate (2 - (lg_sl ([.ref h, .int w])).length) Slot.unset).toArray = ls at hl ⊢
  have hl : lv_has ls 2 [(0, .ref h), (1, .int w)] := hl
  refine lv_iload_n hx hb dX0_rungOf_0 rfl (lv_at hl 1 rfl) ?_
  refine va_csv ((va_runS (As := [.int w]) (rest := []) ⟨hx, hb, hml, hown, hts⟩ (c_X0_requireWren_v l w hw) (va_cwS 1 hts gX0_rungOf_X0_requireWren rfl rfl rfl (by decide +kernel) ⟨Nat.le_of_ble_eq_true rfl, Nat.le_of_ble_eq_true rfl⟩) ⟨zT.blind, zT.call⟩ rfl rfl hl.1 rfl (lv_room (Nat.le_of_ble_eq_true rfl)) dX0_rungOf_1 ⟨Nat.zero_le _, Nat.zero_le _⟩).run) (fun _ => ?_)
  refine lv_aload_n hx hb dX0_rungOf_4 rfl (lv_at hl 0 rfl) ?_
  refine va_get (D := D) (ci := 0) (v := .ref (d 0)) (C := RX0) (T := TX0) (N := 12) hx hb hts hiw hown hK hP 0 rfl rfl 0 (by decide) (hts (.fieldLink RX0 9 "TunedWrens" "rungOfWren" "[I") (by decide +kernel)) (fun _ h9 => h9) rfl dX0_rungOf_5 ?_
  refine lv_iload_n hx hb dX0_rungOf_8 rfl (lv_at hl 1 rfl) ?_
  refine va_iald hx hb hK hP 1 0 rfl rfl (zw_in hw) dX0_rungOf_9 ?_
  exact W.iret (v := (z.1 w.toNatClampNeg)) hx hb hr (fun t ht hW => ⟨_, rfl, rfl, ht⟩) (fun _ h9 => nomatch h9) dX0_rungOf_10

set_option maxHeartbeats 4000000 in
set_option maxRecDepth 100000 in
theorem c_X0_nudgeOf_v (l : Launch) (D : va_G) (N0 : Nat) (cA cL : ClassId) (E : va_W) (h : Nat) (d : Nat → Nat) (z : S7) (c : C5) (w : Int32) (hw : zw w) : Met l yX0_nudgeOf wsX0_nudgeOf ({ frames := 1, cells := 0, slots := 0, locals := 20 }) (va_Pc [.ref h, .int w] (zPre D N0 cA cL (wX h d cA z c ++ E))) (vp_Si (fun rv => rv = z.2.1 w.toNatClampNeg)) 0 0 (fun _ => False) := by
  refine Met.ofW (cc := cX0_nudgeOf) (maxL := 2) (ret := (some .int)) (by decide) rfl ?_
  intro pr e s m ag below meth cd s₁ B hml hv
  obtain ⟨rfl, hN, hP, hD, hK, hE⟩ := hv
  have hx := B.exec
  have hb := B.bytes
  have hr := B.returns
  have hts := atoms_spec (ws := wsX0_nudgeOf) B.pre
  have hown : s.vm.findClass RX0 = some m.cls := findClass_of_methodNamed B.named
  have hlocks := B.notSynchronized
  have hS : va_S (zA N0) s.heap s.heap [] := va_S.rf
  have hiw : ∀ w ∈ u_ws RX0 TX0 12, w ∈ wsX0_nudgeOf := by decide +kernel
  have hl := lv_entry ([.ref h, .int w]) (n := 2) (Nat.le_of_ble_eq_true rfl)
  rw [lg_entry_eq]
  generalize (lg_sl ([.ref h, .int w]) ++ List.replicate (2 - (lg_sl ([.ref h, .int w])).length) Slot.unset).toArray = ls at hl ⊢
  have hl : lv_has ls 2 [(0, .ref h), (1, .int w)] := hl
  refine lv_iload_n hx hb dX0_nudgeOf_0 rfl (lv_at hl 1 rfl) ?_
  refine va_csv ((va_runS (As := [.int w]) (rest := []) ⟨hx, hb, hml, hown, hts⟩ (c_X0_requireWren_v l w hw) (va_cwS 1 hts gX0_nudgeOf_X0_requireWren rfl rfl rfl (by decide +kernel) ⟨Nat.le_of_ble_eq_true rfl, Nat.le_of_ble_eq_true rfl⟩) ⟨zT.blind, zT.call⟩ rfl rfl hl.1 rfl (lv_room (Nat.le_of_ble_eq_true rfl)) dX0_nudgeOf_1 ⟨Nat.zero_le _, Nat.zero_le _⟩).run) (fun _ => ?_)
  refine lv_aload_n hx hb dX0_nudgeOf_4 rfl (lv_at hl 0 rfl) ?_
  refine va_get (D := D) (ci := 0) (v := .ref (d 1)) (C := RX0) (T := TX0) (N := 12) hx hb hts hiw hown hK hP 0 rfl rfl 1 (by decide) (hts (.fieldLink RX0 13 "TunedWrens" "nudgeOfWren" "[I") (by decide +kernel)) (fun _ h9 => h9) rfl dX0_nudgeOf_5 ?_
  refine lv_iload_n hx hb dX0_nudgeOf_8 rfl (lv_at hl 1 rfl) ?_
  refine va_iald hx hb hK hP 2 0 rfl rfl (zw_in hw) dX0_nudgeOf_9 ?_
  exact W.iret (v := (z.2.1 w.toNatClampNeg)) hx hb hr (fun t ht hW => ⟨_, rfl, rfl, ht⟩) (fun _ h9 => nomatch h9) dX0_nudgeOf_10

set_option maxHeartbeats 4000000 in
set_option maxRecDepth 100000 in
theorem c_X0_framesOf_v (l : Launch) (D : va_G) (N0 : Nat) (cA cL : ClassId) (E : va_W) (h : Nat) (d : Nat → Nat) (z : S7) (c : C5) (w : Int32) (hw : zw w) : Met l yX0_framesOf wsX0_framesOf ({ frames := 1, cells := 0, slots := 0, locals := 20 }) (va_Pc [.ref h, .int w] (zPre D N0 cA cL (wX h d cA z c ++ E))) (vp_Si (fun rv => rv = z.2.2.1 w.toNatClampNeg)) 0 0 (fun _ => False) := by
  refine Met.ofW (cc := cX0_framesOf) (maxL := 2) (ret := (some .int)) (by decide) rfl ?_
  intro pr e s m ag below meth cd s₁ B hml hv
  obtain ⟨rfl, hN, hP, hD, hK, hE⟩ := hv
  have hx := B.exec
  have hb := B.bytes
  have hr := B.returns
  have hts := atoms_spec (ws := wsX0_framesOf) B.pre
  have hown : s.vm.findClass RX0 = some m.cls := findClass_of_methodNamed B.named
  have hlocks := B.notSynchronized
  have hS : va_S (zA N0) s.heap s.heap [] := va_S.rf
  have hiw : ∀ w ∈ u_ws RX0 TX0 12, w ∈ wsX0_framesOf := by decide +kernel
  have hl := lv_entry ([.ref h, .int w]) (n := 2) (Nat.le_of_ble_eq_true rfl)
  rw [lg_entry_eq]
  generalize (lg_sl ([.ref h, .int w]) ++ List.replicate (2 - (lg_sl ([.ref h, .int w])).length) Slot.unset).toArray = ls at hl ⊢
  have hl : lv_has ls 2 [(0, .ref h), (1, .int w)] := hl
  refine lv_iload_n hx hb dX0_framesOf_0 rfl (lv_at hl 1 rfl) ?_
  refine va_csv ((va_runS (As := [.int w]) (rest := []) ⟨hx, hb, hml, hown, hts⟩ (c_X0_requireWren_v l w hw) (va_cwS 1 hts gX0_framesOf_X0_requireWren rfl rfl rfl (by decide +kernel) ⟨Nat.le_of_ble_eq_true rfl, Nat.le_of_ble_eq_true rfl⟩) ⟨zT.blind, zT.call⟩ rfl rfl hl.1 rfl (lv_room (Nat.le_of_ble_eq_true rfl)) dX0_framesOf_1 ⟨Nat.zero_le _, Nat.zero_le _⟩).run) (fun _ => ?_)
  refine lv_aload_n hx hb dX0_framesOf_4 rfl (lv_at hl 0 rfl) ?_
  refine va_get (D := D) (ci := 0) (v := .ref (d 2)) (C := RX0) (T := TX0) (N := 12) hx hb hts hiw hown hK hP 0 rfl rfl 2 (by decide) (hts (.fieldLink RX0 16 "TunedWrens" "framesOfWren" "[I") (by decide +kernel)) (fun _ h9 => h9) rfl dX0_framesOf_5 ?_
  refine lv_iload_n hx hb dX0_framesOf_8 rfl (lv_at hl 1 rfl) ?_
  refine va_iald hx hb hK hP 3 0 rfl rfl (zw_in hw) dX0_framesOf_9 ?_
  exact W.iret (v := (z.2.2.1 w.toNatClampNeg)) hx hb hr (fun t ht hW => ⟨_, rfl, rfl, ht⟩) (fun _ h9 => nomatch h9) dX0_framesOf_10

set_option maxHeartbeats 4000000 in
set_option maxRecDepth 100000 in
theorem c_X0_changesOf_v (l : Launch) (D : va_G) (N0 : Nat) (cA cL : ClassId) (E : va_W) (h : Nat) (d : Nat → Nat) (z : S7) (c : C5) (w : Int32) (hw : zw w) : Met l yX0_changesOf wsX0_changesOf ({ frames := 1, cells := 0, slots := 0, locals := 20 }) (va_Pc [.ref h, .int w] (zPre D N0 cA cL (wX h d cA z c ++ E))) (vp_Si (fun rv => rv = z.2.2.2.1 w.toNatClampNeg)) 0 0 (fun _ => False) := by
  refine Met.ofW (cc := cX0_changesOf) (maxL := 2) (ret := (some .int)) (by decide) rfl ?_
  intro pr e s m ag below meth cd s₁ B hml hv
  obtain ⟨rfl, hN, hP, hD, hK, hE⟩ := hv
  have hx := B.exec
  have hb := B.bytes
  have hr := B.returns
  have hts := atoms_spec (ws := wsX0_changesOf) B.pre
  have hown : s.vm.findClass RX0 = some m.cls := findClass_of_methodNamed B.named
  have hlocks := B.notSynchronized
  have hS : va_S (zA N0) s.heap s.heap [] := va_S.rf
  have hiw : ∀ w ∈ u_ws RX0 TX0 12, w ∈ wsX0_changesOf := by decide +kernel
  have hl := lv_entry ([.ref h, .int w]) (n := 2) (Nat.le_of_ble_eq_true rfl)
  rw [lg_entry_eq]
  generalize (lg_sl ([.ref h, .int w]) ++ List.replicate (2 - (lg_sl ([.ref h, .int w])).length) Slot.unset).toArray = ls at hl ⊢
  have hl : lv_has ls 2 [(0, .ref h), (1, .int w)] := hl
  refine lv_iload_n hx hb dX0_changesOf_0 rfl (lv_at hl 1 rfl) ?_
  refine va_csv ((va_runS (As := [.int w]) (rest := []) ⟨hx, hb, hml, hown, hts⟩ (c_X0_requireWren_v l w hw) (va_cwS 1 hts gX0_changesOf_X0_requireWren rfl rfl rfl (by decide +kernel) ⟨Nat.le_of_ble_eq_true rfl, Nat.le_of_ble_eq_true rfl⟩) ⟨zT.blind, zT.call⟩ rfl rfl hl.1 rfl (lv_room (Nat.le_of_ble_eq_true rfl)) dX0_changesOf_1 ⟨Nat.zero_le _, Nat.zero_le _⟩).run) (fun _ => ?_)
  refine lv_aload_n hx hb dX0_changesOf_4 rfl (lv_at hl 0 rfl) ?_
  refine va_get (D := D) (ci := 0) (v := .ref (d 3)) (C := RX0) (T := TX0) (N := 12) hx hb hts hiw hown hK hP 0 rfl rfl 3 (by decide) (hts (.fieldLink RX0 19 "TunedWrens" "changesOfWren" "[I") (by decide +kernel)) (fun _ h9 => h9) rfl dX0_changesOf_5 ?_
  refine lv_iload_n hx hb dX0_changesOf_8 rfl (lv_at hl 1 rfl) ?_
  refine va_iald hx hb hK hP 4 0 rfl rfl (zw_in hw) dX0_changesOf_9 ?_
  exact W.iret (v := (z.2.2.2.1 w.toNatClampNeg)) hx hb hr (fun t ht hW => ⟨_, rfl, rfl, ht⟩) (fun _ h9 => nomatch h9) dX0_changesOf_10

set_option maxHeartbeats 4000000 in
set_option maxRecDepth 100000 in
theorem c_X0_leapsOf_v (l : Launch) (D : va_G) (N0 : Nat) (cA cL : ClassId) (E : va_W) (h : Nat) (d : Nat → Nat) (z : S7) (c : C5) (w : Int32) (hw : zw w) : Met l yX0_leapsOf wsX0_leapsOf ({ frames := 1, cells := 0, slots := 0, locals := 20 }) (va_Pc [.ref h, .int w] (zPre D N0 cA cL (wX h d cA z c ++ E))) (vp_Si (fun rv => rv = z.2.2.2.2.1 w.toNatClampNeg)) 0 0 (fun _ => False) := by
  refine Met.ofW (cc := cX0_leapsOf) (maxL := 2) (ret := (some .int)) (by decide) rfl ?_
  intro pr e s m ag below meth cd s₁ B hml hv
  obtain ⟨rfl, hN, hP, hD, hK, hE⟩ := hv
  have hx := B.exec
  have hb := B.bytes
  have hr := B.returns
  have hts := atoms_spec (ws := wsX0_leapsOf) B.pre
  have hown : s.vm.findClass RX0 = some m.cls := findClass_of_methodNamed B.named
  have hlocks := B.notSynchronized
  have hS : va_S (zA N0) s.heap s.heap [] := va_S.rf
  have hiw : ∀ w ∈ u_ws RX0 TX0 12, w ∈ wsX0_leapsOf := by decide +kernel
  have hl := lv_entry ([.ref h, .int w]) (n := 2) (Nat.le_of_ble_eq_true rfl)
  rw [lg_entry_eq]
  generalize (lg_sl ([.ref h, .int w]) ++ List.replicate (2 - (lg_sl ([.ref h, .int w])).length) Slot.unset).toArray = ls at hl ⊢
  have hl : lv_has ls 2 [(0, .ref h), (1, .int w)] := hl
  refine lv_iload_n hx hb dX0_leapsOf_0 rfl (lv_at hl 1 rfl) ?_
  refine va_csv ((va_runS (As := [.int w]) (rest := []) ⟨hx, hb, hml, hown, hts⟩ (c_X0_requireWren_v l w hw) (va_cwS 1 hts gX0_leapsOf_X0_requireWren rfl rfl rfl (by decide +kernel) ⟨Nat.le_of_ble_eq_true rfl, Nat.le_of_ble_eq_true rfl⟩) ⟨zT.blind, zT.call⟩ rfl rfl hl.1 rfl (lv_room (Nat.le_of_ble_eq_true rfl)) dX0_leapsOf_1 ⟨Nat.zero_le _, Nat.zero_le _⟩).run) (fun _ => ?_)
  refine lv_aload_n hx hb dX0_leapsOf_4 rfl (lv_at hl 0 rfl) ?_
  refine va_get (D := D) (ci := 0) (v := .ref (d 4)) (C := RX0) (T := TX0) (N := 12) hx hb hts hiw hown hK hP 0 rfl rfl 4 (by decide) (hts (.fieldLink RX0 22 "TunedWrens" "leapsOfWren" "[I") (by decide +kernel)) (fun _ h9 => h9) rfl dX0_leapsOf_5 ?_
  refine lv_iload_n hx hb dX0_leapsOf_8 rfl (lv_at hl 1 rfl) ?_
  refine va_iald hx hb hK hP 5 0 rfl rfl (zw_in hw) dX0_leapsOf_9 ?_
  exact W.iret (v := (z.2.2.2.2.1 w.toNatClampNeg)) hx hb hr (fun t ht hW => ⟨_, rfl, rfl, ht⟩) (fun _ h9 => nomatch h9) dX0_leapsOf_10

set_option maxHeartbeats 4000000 in
set_option maxRecDepth 100000 in
theorem c_X0_cleanOf_v (l : Launch) (D : va_G) (N0 : Nat) (cA cL : ClassId) (E : va_W) (h : Nat) (d : Nat → Nat) (z : S7) (c : C5) (w : Int32) (hw : zw w) : Met l yX0_cleanOf wsX0_cleanOf ({ frames := 1, cells := 0, slots := 0, locals := 20 }) (va_Pc [.ref h, .int w] (zPre D N0 cA cL (wX h d cA z c ++ E))) (vp_Si (fun rv => rv = z.2.2.2.2.2.1 w.toNatClampNeg)) 0 0 (fun _ => False) := by
  refine Met.ofW (cc := cX0_cleanOf) (maxL := 2) (ret := (some .int)) (by decide) rfl ?_
  intro pr e s m ag below meth cd s₁ B hml hv
  obtain ⟨rfl, hN, hP, hD, hK, hE⟩ := hv
  have hx := B.exec
  have hb := B.bytes
  have hr := B.returns
  have hts := atoms_spec (ws := wsX0_cleanOf) B.pre
  have hown : s.vm.findClass RX0 = some m.cls := findClass_of_methodNamed B.named
  have hlocks := B.notSynchronized
  have hS : va_S (zA N0) s.heap s.heap [] := va_S.rf
  have hiw : ∀ w ∈ u_ws RX0 TX0 12, w ∈ wsX0_cleanOf := by decide +kernel
  have hl := lv_entry ([.ref h, .int w]) (n := 2) (Nat.le_of_ble_eq_true rfl)
  rw [lg_entry_eq]
  generalize (lg_sl ([.ref h, .int w]) ++ List.replicate (2 - (lg_sl ([.ref h, .int w])).length) Slot.unset).toArray = ls at hl ⊢
  have hl : lv_has ls 2 [(0, .ref h), (1, .int w)] := hl
  refine lv_iload_n hx hb dX0_cleanOf_0 rfl (lv_at hl 1 rfl) ?_
  refine va_csv ((va_runS (As := [.int w]) (rest := []) ⟨hx, hb, hml, hown, hts⟩ (c_X0_requireWren_v l w hw) (va_cwS 1 hts gX0_cleanOf_X0_requireWren rfl rfl rfl (by decide +kernel) ⟨Nat.le_of_ble_eq_true rfl, Nat.le_of_ble_eq_true rfl⟩) ⟨zT.blind, zT.call⟩ rfl rfl hl.1 rfl (lv_room (Nat.le_of_ble_eq_true rfl)) dX0_cleanOf_1 ⟨Nat.zero_le _, Nat.zero_le _⟩).run) (fun _ => ?_)
  refine lv_aload_n hx hb dX0_cleanOf_4 rfl (lv_at hl 0 rfl) ?_
  refine va_get (D := D) (ci := 0) (v := .ref (d 5)) (C := RX0) (T := TX0) (N := 12) hx hb hts hiw hown hK hP 0 rfl rfl 5 (by decide) (hts (.fieldLink RX0 25 "TunedWrens" "cleanOfWren" "[I") (by decide +kernel)) (fun _ h9 => h9) rfl dX0_cleanOf_5 ?_
  refine lv_iload_n hx hb dX0_cleanOf_8 rfl (lv_at hl 1 rfl) ?_
  refine va_iald hx hb hK hP 6 0 rfl rfl (zw_in hw) dX0_cleanOf_9 ?_
  exact W.iret (v := (z.2.2.2.2.2.1 w.toNatClampNeg)) hx hb hr (fun t ht hW => ⟨_, rfl, rfl, ht⟩) (fun _ h9 => nomatch h9) dX0_cleanOf_10

set_option maxHeartbeats 4000000 in
set_option maxRecDepth 100000 in
theorem c_X0_sung_v (l : Launch) (D : va_G) (N0 : Nat) (cA cL : ClassId) (E : va_W) (h : Nat) (d : Nat → Nat) (z : S7) (c : C5) (k : Int32) (hk : 0 ≤ k ∧ k ≤ 11) : Met l yX0_sung wsX0_sung ({ frames := 0, cells := 0, slots := 0, locals := 0 }) (va_Pc [.ref h, .int k] (zPre D N0 cA cL (wX h d cA z c ++ E))) (vp_Si (fun rv => rv = z.2.2.2.2.2.2 k.toNatClampNeg)) 0 0 (fun _ => False) := by
  refine Met.ofW (cc := cX0_sung) (maxL := 2) (ret := (some .int)) (by decide) rfl ?_
  intro pr e s m ag below meth cd s₁ B hml hv
  obtain ⟨rfl, hN, hP, hD, hK, hE⟩ := hv
  have hx := B.exec
  have hb := B.bytes
  have hr := B.returns
  have hts := atoms_spec (ws := wsX0_sung) B.pre
  have hown : s.vm.findClass RX0 = some m.cls := findClass_of_methodNamed B.named
  have hlocks := B.notSynchronized
  have hS : va_S (zA N0) s.heap s.heap [] := va_S.rf
  have hiw : ∀ w ∈ u_ws RX0 TX0 12, w ∈ wsX0_sung := by decide +kernel
  have hl := lv_entry ([.ref h, .int k]) (n := 2) (Nat.le_of_ble_eq_true rfl)
  rw [lg_entry_eq]
  generalize (lg_sl ([.ref h, .int k]) ++ List.replicate (2 - (lg_sl ([.ref h, .int k])).length) Slot.unset).toArray = ls at hl ⊢
  have hl : lv_has ls 2 [(0, .ref h), (1, .int k)] := hl
  refine lv_iload_n hx hb dX0_sung_0 rfl (lv_at hl 1 rfl) ?_
  refine lv_if_lt (tgt := 10) hx hb dX0_sung_1 (by decide) (fun c_1 => ?_) (fun c_1 => ?_)
  · exact absurd c_1 (Int32.not_lt.mpr hk.1)
  · refine lv_iload_n hx hb dX0_sung_4 rfl (lv_at hl 1 rfl) ?_
    refine lv_bipush (v := 12) hx hb dX0_sung_5 (by decide) ?_
    refine lv_icmp_lt (tgt := 20) hx hb dX0_sung_7 (by decide) (fun c_7 => ?_) (fun c_7 => ?_)
    · refine lv_aload_n hx hb dX0_sung_20 rfl (lv_at hl 0 rfl) ?_
      refine va_get (D := D) (ci := 0) (v := .ref (d 6)) (C := RX0) (T := TX0) (N := 12) hx hb hts hiw hown hK hP 0 rfl rfl 6 (by decide) (hts (.fieldLink RX0 28 "TunedWrens" "framesOfSemitone" "[I") (by decide +kernel)) (fun _ h9 => h9) rfl dX0_sung_21 ?_
      refine lv_iload_n hx hb dX0_sung_24 rfl (lv_at hl 1 rfl) ?_
      refine va_iald hx hb hK hP 7 0 rfl rfl (zk_in hk) dX0_sung_25 ?_
      exact W.iret (v := (z.2.2.2.2.2.2 k.toNatClampNeg)) hx hb hr (fun t ht hW => ⟨_, rfl, rfl, ht⟩) (fun _ h9 => nomatch h9) dX0_sung_26
    · exact absurd (zk_lt hk) c_7

set_option maxHeartbeats 4000000 in
set_option maxRecDepth 100000 in
theorem c_X0_within_v (l : Launch) (D : va_G) (N0 : Nat) (cA cL : ClassId) (E : va_W) (h : Nat) (d : Nat → Nat) (z : S7) (c : C5) (ky md : Nat) (hk : ky < 12) (hm : md < 8) : Met l yX0_within wsX0_within ({ frames := 3, cells := 0, slots := 0, locals := 71 }) (va_Pc [.ref h, .int (nI ky), .int (nI md)] (zPre D N0 cA cL (wX h d cA z c ++ E))) (vp_Si (fun rv => rv = zW md ky z.2.2.2.2.2.2)) 0 0 (fun _ => False) := by
  refine Met.ofW (cc := cX0_within) (maxL := 3) (ret := (some .int)) (by decide) rfl ?_
  intro pr e s m ag below meth cd s₁ B hml hv
  obtain ⟨rfl, hN, hP, hD, hK, hE⟩ := hv
  have hx := B.exec
  have hb := B.bytes
  have hr := B.returns
  have hts := atoms_spec (ws := wsX0_within) B.pre
  have hown : s.vm.findClass RX0 = some m.cls := findClass_of_methodNamed B.named
  have hlocks := B.notSynchronized
  have hS : va_S (zA N0) s.heap s.heap [] := va_S.rf
  have hl := lv_entry ([.ref h, .int (nI ky), .int (nI md)]) (n := 3) (Nat.le_of_ble_eq_true rfl)
  rw [lg_entry_eq]
  generalize (lg_sl ([.ref h, .int (nI ky), .int (nI md)]) ++ List.replicate (3 - (lg_sl ([.ref h, .int (nI ky), .int (nI md)])).length) Slot.unset).toArray = ls at hl ⊢
  have hl : lv_has ls 3 [(0, .ref h), (1, .int (nI ky)), (2, .int (nI md))] := hl
  refine lv_iload_n hx hb dX0_within_0 rfl (lv_at hl 1 rfl) ?_
  refine lv_iconst (v := 0) hx hb dX0_within_1 (by decide) ?_
  refine lv_bipush (v := 11) hx hb dX0_within_2 (by decide) ?_
  refine va_csv ((va_runS (As := [.int (nI ky), .int 0, .int 11]) (rest := []) ⟨hx, hb, hml, hown, hts⟩ (c_X0_requireRange_v l (nI ky) 0 11 (zn_in (n := 11) (by omega) (by decide))) (va_cwS 3 hts gX0_within_X0_requireRange rfl rfl rfl (by decide +kernel) ⟨Nat.le_of_ble_eq_true rfl, Nat.le_of_ble_eq_true rfl⟩) ⟨zT.blind, zT.call⟩ rfl rfl hl.1 rfl (lv_room (Nat.le_of_ble_eq_true rfl)) dX0_within_4 ⟨Nat.zero_le _, Nat.zero_le _⟩).run) (fun _ => ?_)
  refine lv_iload_n hx hb dX0_within_7 rfl (lv_at hl 2 rfl) ?_
  refine lv_iconst (v := 0) hx hb dX0_within_8 (by decide) ?_
  refine lv_bipush (v := 7) hx hb dX0_within_9 (by decide) ?_
  refine va_csv ((va_runS (As := [.int (nI md), .int 0, .int 7]) (rest := []) ⟨hx, hb, hml, hown, hts⟩ (c_X0_requireRange_v l (nI md) 0 7 (zn_in (n := 7) (by omega) (by decide))) (va_cwS 3 hts gX0_within_X0_requireRange rfl rfl rfl (by decide +kernel) ⟨Nat.le_of_ble_eq_true rfl, Nat.le_of_ble_eq_true rfl⟩) ⟨zT.blind, zT.call⟩ rfl rfl hl.1 rfl (lv_room (Nat.le_of_ble_eq_true rfl)) dX0_within_11 ⟨Nat.zero_le _, Nat.zero_le _⟩).run) (fun _ => ?_)
  refine lv_aload_n hx hb dX0_within_14 rfl (lv_at hl 0 rfl) ?_
  refine lv_iload_n hx hb dX0_within_15 rfl (lv_at hl 1 rfl) ?_
  refine lv_iload_n hx hb dX0_within_16 rfl (lv_at hl 2 rfl) ?_
  refine vp_callSi ((va_runV (As := [.int (nI ky), .int (nI md)]) (rest := []) ⟨hx, hb, hml, hown, hts⟩ (c_X0_framesWithin l D N0 cA cL E h d z c ky md hk hm) (cwV 2 hts gX0_within_X0_framesWithin rfl rfl rfl (by decide +kernel) ⟨Nat.le_of_ble_eq_true rfl, Nat.le_of_ble_eq_true rfl⟩) ⟨zPre.blind, va_recv hK hP (ci := 0) (q0 := 0) rfl rfl, zPre.call hN hP hD hK hE hS⟩ rfl rfl hl.1 rfl (lv_room (Nat.le_of_ble_eq_true rfl)) dX0_within_17 ⟨Nat.zero_le _, Nat.zero_le _⟩).run) (fun r_17 h_17 => ?_)
  have h_17 : r_17 = (zW md ky z.2.2.2.2.2.2) := h_17
  subst h_17
  exact W.iret (v := (zW md ky z.2.2.2.2.2.2)) hx hb hr (fun t ht hW => ⟨_, rfl, rfl, ht⟩) (fun _ h9 => nomatch h9) dX0_within_20

set_option maxHeartbeats 4000000 in
set_option maxRecDepth 100000 in
theorem c_X0_bestKey_v (l : Launch) (D : va_G) (N0 : Nat) (cA cL : ClassId) (E : va_W) (h : Nat) (d : Nat → Nat) (z : S7) (c : C5) (md : Nat) (hm : md < 8) : Met l yX0_bestKey wsX0_bestKey ({ frames := 3, cells := 0, slots := 0, locals := 71 }) (va_Pc [.ref h, .int (nI md)] (zPre D N0 cA cL (wX h d cA z c ++ E))) (vp_Si (fun rv => rv = nI (zBk md z.2.2.2.2.2.2))) 0 0 (fun _ => False) := by
  refine Met.ofW (cc := cX0_bestKey) (maxL := 6) (ret := (some .int)) (by decide) rfl ?_
  intro pr e s m ag below meth cd s₁ B hml hv
  obtain ⟨rfl, hN, hP, hD, hK, hE⟩ := hv
  have hx := B.exec
  have hb := B.bytes
  have hr := B.returns
  have hts := atoms_spec (ws := wsX0_bestKey) B.pre
  have hown : s.vm.findClass RX0 = some m.cls := findClass_of_methodNamed B.named
  have hlocks := B.notSynchronized
  have hS : va_S (zA N0) s.heap s.heap [] := va_S.rf
  have hl := lv_entry ([.ref h, .int (nI md)]) (n := 6) (Nat.le_of_ble_eq_true rfl)
  rw [lg_entry_eq]
  generalize (lg_sl ([.ref h, .int (nI md)]) ++ List.replicate (6 - (lg_sl ([.ref h, .int (nI md)])).length) Slot.unset).toArray = ls at hl ⊢
  have hl : lv_has ls 6 [(0, .ref h), (1, .int (nI md))] := hl
  have loop : ∀ (n : Nat) (j : Nat), j ≤ 11 → 12 ≤ j + n → ∀ (ls : Array Slot), lv_has ls 6 [(2, .int (nI (zBkn md z.2.2.2.2.2.2 j))), (3, .int (zW md (zBkn md z.2.2.2.2.2.2 j) z.2.2.2.2.2.2)), (4, .int (nI (j + 1))), (0, .ref h), (1, .int (nI md))] → W pr l e (headSpec wsX0_bestKey ({ frames := 3, cells := 0, slots := 0, locals := 71 })).room s m ([.ref h, .int (nI md)] : List Value).toArray below meth cd s.heap [] 0 0 (MQ below (vp_Si (fun rv => rv = nI (zBk md z.2.2.2.2.2.2))) ([.ref h, .int (nI md)] : List Value).toArray s 0 0 (fun _ => False)) (F0 m 19 ls []) := by
    intro n
    induction n with
    | zero =>
      intro j hj hn
      omega
    | succ n ih =>
      intro j hj hn ls hl
      refine lv_iload hx hb dX0_bestKey_19 (lv_at hl 2 rfl) ?_
      refine lv_bipush (v := 12) hx hb dX0_bestKey_21 (by decide) ?_
      refine lv_icmp_ge (tgt := 53) hx hb dX0_bestKey_23 (by decide) (fun c_23 => ?_) (fun c_23 => ?_)
      · have hj11 : j = 11 := by have := (nI_leI (a := 12) (by decide) (by omega)).mp c_23; omega
        subst hj11
        refine lv_iload_n hx hb dX0_bestKey_53 rfl (lv_at hl 0 rfl) ?_
        exact W.iret (v := (nI (zBkn md z.2.2.2.2.2.2 11))) hx hb hr (fun t ht hW => ⟨_, rfl, rfl, ht⟩) (fun _ h9 => nomatch h9) dX0_bestKey_54
      · have hj11 : j < 11 := by
          rcases Nat.lt_or_ge j 11 with q | q
          · exact q
          · exact absurd ((nI_leI (a := 12) (by decide) (by omega)).mpr (by omega)) c_23
        refine lv_aload_n hx hb dX0_bestKey_26 rfl (lv_at hl 3 rfl) ?_
        refine lv_iload hx hb dX0_bestKey_27 (lv_at hl 2 rfl) ?_
        refine lv_iload_n hx hb dX0_bestKey_29 rfl (lv_at hl 4 rfl) ?_
        refine vp_callSi ((va_runV (As := [.int (nI (j + 1)), .int (nI md)]) (rest := []) ⟨hx, hb, hml, hown, hts⟩ (c_X0_framesWithin l D N0 cA cL E h d z c (j + 1) md (by omega) hm) (cwV 2 hts gX0_bestKey_X0_framesWithin rfl rfl rfl (by decide +kernel) ⟨Nat.le_of_ble_eq_true rfl, Nat.le_of_ble_eq_true rfl⟩) ⟨zPre.blind, va_recv hK hP (ci := 0) (q0 := 0) rfl rfl, zPre.call hN hP hD hK hE hS⟩ rfl rfl hl.1 rfl (lv_room (Nat.le_of_ble_eq_true rfl)) dX0_bestKey_30 ⟨Nat.zero_le _, Nat.zero_le _⟩).run) (fun r_30 h_30 => ?_)
        have h_30 : r_30 = (zW md (j + 1) z.2.2.2.2.2.2) := h_30
        subst h_30
        refine lv_istore (lv' := [(5, .int (zW md (j + 1) z.2.2.2.2.2.2)), (2, .int (nI (zBkn md z.2.2.2.2.2.2 j))), (3, .int (zW md (zBkn md z.2.2.2.2.2.2 j) z.2.2.2.2.2.2)), (4, .int (nI (j + 1))), (0, .ref h), (1, .int (nI md))]) hx hb dX0_bestKey_33 hl (by decide) rfl (fun ls hl => ?_)
        refine lv_iload hx hb dX0_bestKey_35 (lv_at hl 0 rfl) ?_
        refine lv_iload_n hx hb dX0_bestKey_37 rfl (lv_at hl 2 rfl) ?_
        refine lv_icmp_le (tgt := 47) hx hb dX0_bestKey_38 (by decide) (fun c_38 => ?_) (fun c_38 => ?_)
        · refine lv_iinc (v := (nI (j + 1 + 1))) (lv' := [(4, .int (nI (j + 1 + 1))), (5, .int (zW md (j + 1) z.2.2.2.2.2.2)), (2, .int (nI (zBkn md z.2.2.2.2.2.2 j))), (3, .int (zW md (zBkn md z.2.2.2.2.2.2 j) z.2.2.2.2.2.2)), (0, .ref h), (1, .int (nI md))]) hx hb dX0_bestKey_47 hl (k := 3) rfl (z_inc (j + 1) 1) (by decide) rfl (fun ls hl => ?_)
          refine lv_goto (tgt := 19) hx hb dX0_bestKey_50 (by decide) ?_
          have hl : lv_has ls 6 [(4, .int (nI (j + 1 + 1))), (5, .int (zW md (j + 1) z.2.2.2.2.2.2)), (2, .int (nI (zBkn md z.2.2.2.2.2.2 (j + 1)))), (3, .int (zW md (zBkn md z.2.2.2.2.2.2 (j + 1)) z.2.2.2.2.2.2)), (0, .ref h), (1, .int (nI md))] := by
            rw [show ((nI (zBkn md z.2.2.2.2.2.2 (j + 1))) : Int32) = (nI (zBkn md z.2.2.2.2.2.2 j)) from (by rw [show zBkn md z.2.2.2.2.2.2 (j + 1) = zBkn md z.2.2.2.2.2.2 j from if_neg (Int32.not_lt.mpr c_38)]), show ((zW md (zBkn md z.2.2.2.2.2.2 (j + 1)) z.2.2.2.2.2.2) : Int32) = (zW md (zBkn md z.2.2.2.2.2.2 j) z.2.2.2.2.2.2) from (by rw [show zBkn md z.2.2.2.2.2.2 (j + 1) = zBkn md z.2.2.2.2.2.2 j from if_neg (Int32.not_lt.mpr c_38)])]
            exact hl
          exact ih (j + 1) (by omega) (by omega) ls (lv_sub hl [2, 3, 0, 4, 5] rfl)
        · refine lv_iload hx hb dX0_bestKey_41 (lv_at hl 3 rfl) ?_
          refine lv_istore_n (lv' := [(2, .int (nI (j + 1))), (5, .int (zW md (j + 1) z.2.2.2.2.2.2)), (3, .int (zW md (zBkn md z.2.2.2.2.2.2 j) z.2.2.2.2.2.2)), (4, .int (nI (j + 1))), (0, .ref h), (1, .int (nI md))]) hx hb dX0_bestKey_43 rfl hl (by decide) rfl (fun ls hl => ?_)
          refine lv_iload hx hb dX0_bestKey_44 (lv_at hl 1 rfl) ?_
          refine lv_istore_n (lv' := [(3, .int (zW md (j + 1) z.2.2.2.2.2.2)), (2, .int (nI (j + 1))), (5, .int (zW md (j + 1) z.2.2.2.2.2.2)), (4, .int (nI (j + 1))), (0, .ref h), (1, .int (nI md))]) hx hb dX0_bestKey_46 rfl hl (by decide) rfl (fun ls hl => ?_)
          refine lv_iinc (v := (nI (j + 1 + 1))) (lv' := [(4, .int (nI (j + 1 + 1))), (3, .int (zW md (j + 1) z.2.2.2.2.2.2)), (2, .int (nI (j + 1))), (5, .int (zW md (j + 1) z.2.2.2.2.2.2)), (0, .ref h), (1, .int (nI md))]) hx hb dX0_bestKey_47 hl (k := 3) rfl (z_inc (j + 1) 1) (by decide) rfl (fun ls hl => ?_)
          refine lv_goto (tgt := 19) hx hb dX0_bestKey_50 (by decide) ?_
          have hl : lv_has ls 6 [(4, .int (nI (j + 1 + 1))), (3, .int (zW md (zBkn md z.2.2.2.2.2.2 (j + 1)) z.2.2.2.2.2.2)), (2, .int (nI (zBkn md z.2.2.2.2.2.2 (j + 1)))), (5, .int (zW md (j + 1) z.2.2.2.2.2.2)), (0, .ref h), (1, .int (nI md))] := by
            rw [show ((nI (zBkn md z.2.2.2.2.2.2 (j + 1))) : Int32) = (nI (j + 1)) from (by rw [show zBkn md z.2.2.2.2.2.2 (j + 1) = j + 1 from if_pos (Int32.not_le.mp c_38)]), show ((zW md (zBkn md z.2.2.2.2.2.2 (j + 1)) z.2.2.2.2.2.2) : Int32) = (zW md (j + 1) z.2.2.2.2.2.2) from (by rw [show zBkn md z.2.2.2.2.2.2 (j + 1) = j + 1 from if_pos (Int32.not_le.mp c_38)])]
            exact hl
          exact ih (j + 1) (by omega) (by omega) ls (lv_sub hl [2, 1, 0, 4, 5] rfl)
  refine lv_iload_n hx hb dX0_bestKey_0 rfl (lv_at hl 1 rfl) ?_
  refine lv_iconst (v := 0) hx hb dX0_bestKey_1 (by decide) ?_
  refine lv_bipush (v := 7) hx hb dX0_bestKey_2 (by decide) ?_
  refine va_csv ((va_runS (As := [.int (nI md), .int 0, .int 7]) (rest := []) ⟨hx, hb, hml, hown, hts⟩ (c_X0_requireRange_v l (nI md) 0 7 (zn_in (n := 7) (by omega) (by decide))) (va_cwS 3 hts gX0_bestKey_X0_requireRange rfl rfl rfl (by decide +kernel) ⟨Nat.le_of_ble_eq_true rfl, Nat.le_of_ble_eq_true rfl⟩) ⟨zT.blind, zT.call⟩ rfl rfl hl.1 rfl (lv_room (Nat.le_of_ble_eq_true rfl)) dX0_bestKey_4 ⟨Nat.zero_le _, Nat.zero_le _⟩).run) (fun _ => ?_)
  refine lv_iconst (v := 0) hx hb dX0_bestKey_7 (by decide) ?_
  refine lv_istore_n (lv' := [(2, .int 0), (0, .ref h), (1, .int (nI md))]) hx hb dX0_bestKey_8 rfl hl (by decide) rfl (fun ls hl => ?_)
  refine lv_aload_n hx hb dX0_bestKey_9 rfl (lv_at hl 1 rfl) ?_
  refine lv_iconst (v := 0) hx hb dX0_bestKey_10 (by decide) ?_
  refine lv_iload_n hx hb dX0_bestKey_11 rfl (lv_at hl 2 rfl) ?_
  refine vp_callSi ((va_runV (As := [.int 0, .int (nI md)]) (rest := []) ⟨hx, hb, hml, hown, hts⟩ (c_X0_framesWithin l D N0 cA cL E h d z c 0 md (by decide) hm) (cwV 2 hts gX0_bestKey_X0_framesWithin rfl rfl rfl (by decide +kernel) ⟨Nat.le_of_ble_eq_true rfl, Nat.le_of_ble_eq_true rfl⟩) ⟨zPre.blind, va_recv hK hP (ci := 0) (q0 := 0) rfl rfl, zPre.call hN hP hD hK hE hS⟩ rfl rfl hl.1 rfl (lv_room (Nat.le_of_ble_eq_true rfl)) dX0_bestKey_12 ⟨Nat.zero_le _, Nat.zero_le _⟩).run) (fun r_12 h_12 => ?_)
  have h_12 : r_12 = (zW md 0 z.2.2.2.2.2.2) := h_12
  subst h_12
  refine lv_istore_n (lv' := [(3, .int (zW md 0 z.2.2.2.2.2.2)), (2, .int 0), (0, .ref h), (1, .int (nI md))]) hx hb dX0_bestKey_15 rfl hl (by decide) rfl (fun ls hl => ?_)
  refine lv_iconst (v := 1) hx hb dX0_bestKey_16 (by decide) ?_
  refine lv_istore (lv' := [(4, .int 1), (3, .int (zW md 0 z.2.2.2.2.2.2)), (2, .int 0), (0, .ref h), (1, .int (nI md))]) hx hb dX0_bestKey_17 hl (by decide) rfl (fun ls hl => ?_)
  exact loop 12 0 (by decide) (by decide) ls (lv_sub hl [2, 1, 0, 3, 4] rfl)

set_option maxHeartbeats 4000000 in
set_option maxRecDepth 100000 in
theorem c_X0_framesToRung_v (l : Launch) (D : va_G) (N0 : Nat) (cA cL : ClassId) (E : va_W) (h : Nat) (d : Nat → Nat) (z : S7) (c : C5) (w : Int32) (p : Int32) (hc : okC c) (hw : zw w) (hp : zp p) : Met l yX0_framesToRung wsX0_framesToRung ({ frames := 6, cells := 0, slots := 0, locals := 135 }) (va_Pc [.ref h, .int w, .int p] (zPre D N0 cA cL (wX h d cA z c ++ E))) (vp_Si (fun rv => rv = zFR c w.toNatClampNeg p z)) 0 0 (fun _ => False) := by
  refine Met.ofW (cc := cX0_framesToRung) (maxL := 6) (ret := (some .int)) (by decide) rfl ?_
  intro pr e s m ag below meth cd s₁ B hml hv
  obtain ⟨rfl, hN, hP, hD, hK, hE⟩ := hv
  have hx := B.exec
  have hb := B.bytes
  have hr := B.returns
  have hts := atoms_spec (ws := wsX0_framesToRung) B.pre
  have hown : s.vm.findClass RX0 = some m.cls := findClass_of_methodNamed B.named
  have hlocks := B.notSynchronized
  have hS : va_S (zA N0) s.heap s.heap [] := va_S.rf
  have hiw : ∀ w ∈ u_ws RX0 TX0 12, w ∈ wsX0_framesToRung := by decide +kernel
  have hl := lv_entry ([.ref h, .int w, .int p]) (n := 6) (Nat.le_of_ble_eq_true rfl)
  rw [lg_entry_eq]
  generalize (lg_sl ([.ref h, .int w, .int p]) ++ List.replicate (6 - (lg_sl ([.ref h, .int w, .int p])).length) Slot.unset).toArray = ls at hl ⊢
  have hl : lv_has ls 6 [(0, .ref h), (1, .int w), (2, .int p)] := hl
  have loop : ∀ (n : Nat) (f k : Nat) (nn : Int32), f + k = 1000 → f < n → zFf c.2.2.1 p (zNext c (z.1 w.toNatClampNeg) p) f k nn = zFR c w.toNatClampNeg p z → ∀ (ls : Array Slot), lv_has ls 6 [(4, .int nn), (5, .int (nI k)), (3, .int (zNext c (z.1 w.toNatClampNeg) p)), (0, .ref h), (1, .int w), (2, .int p)] → W pr l e (headSpec wsX0_framesToRung ({ frames := 6, cells := 0, slots := 0, locals := 135 })).room s m ([.ref h, .int w, .int p] : List Value).toArray below meth cd s.heap [] 0 0 (MQ below (vp_Si (fun rv => rv = zFR c w.toNatClampNeg p z)) ([.ref h, .int w, .int p] : List Value).toArray s 0 0 (fun _ => False)) (F0 m 32 ls []) := by
    intro n
    induction n with
    | zero =>
      intro f k nn hf hn he
      omega
    | succ n ih =>
      intro f k nn hf hn he ls hl
      refine lv_iload hx hb dX0_framesToRung_32 (lv_at hl 1 rfl) ?_
      refine lv_sipush (v := 999) hx hb dX0_framesToRung_34 (by decide) ?_
      refine lv_icmp_gt (tgt := 68) hx hb dX0_framesToRung_37 (by decide) (fun c_37 => ?_) (fun c_37 => ?_)
      · have f0 : f = 0 := by have := (nI_ltI (a := 999) (by decide) (by omega)).mp c_37; omega
        subst f0
        refine lv_iconst (v := (-1)) hx hb dX0_framesToRung_68 (by decide) ?_
        exact W.iret (v := (-1)) hx hb hr (fun t ht hW => ⟨_, rfl, he, ht⟩) (fun _ h9 => nomatch h9) dX0_framesToRung_69
      · obtain ⟨g, rfl⟩ : ∃ g, f = g + 1 := ⟨f - 1, by have : ¬ f = 0 := fun q => c_37 ((nI_ltI (a := 999) (by decide) (by omega)).mpr (by omega)); omega⟩
        refine lv_iload_n hx hb dX0_framesToRung_40 rfl (lv_at hl 5 rfl) ?_
        refine lv_iload hx hb dX0_framesToRung_41 (lv_at hl 0 rfl) ?_
        refine lv_iadd hx hb dX0_framesToRung_43 ?_
        refine lv_iload_n hx hb dX0_framesToRung_44 rfl (lv_at hl 2 rfl) ?_
        refine lv_icmp_ne (tgt := 51) hx hb dX0_framesToRung_45 (by decide) (fun c_45 => ?_) (fun c_45 => ?_)
        · refine lv_aload_n hx hb dX0_framesToRung_51 rfl (lv_at hl 3 rfl) ?_
          refine lv_iload hx hb dX0_framesToRung_52 (lv_at hl 0 rfl) ?_
          refine lv_iload_n hx hb dX0_framesToRung_54 rfl (lv_at hl 2 rfl) ?_
          refine lv_iload_n hx hb dX0_framesToRung_55 rfl (lv_at hl 5 rfl) ?_
          refine lv_isub hx hb dX0_framesToRung_56 ?_
          refine vp_callSi ((va_runV (As := [.int nn, .int ((zNext c (z.1 w.toNatClampNeg) p) - p)]) (rest := []) ⟨hx, hb, hml, hown, hts⟩ (c_X0_nudgeTowards l D N0 cA cL E h d z c nn ((zNext c (z.1 w.toNatClampNeg) p) - p)) (cwV 2 hts gX0_framesToRung_X0_nudgeTowards rfl rfl rfl (by decide +kernel) ⟨Nat.le_of_ble_eq_true rfl, Nat.le_of_ble_eq_true rfl⟩) ⟨zPre.blind, va_recv hK hP (ci := 0) (q0 := 0) rfl rfl, zPre.call hN hP hD hK hE hS⟩ rfl rfl hl.1 rfl (lv_room (Nat.le_of_ble_eq_true rfl)) dX0_framesToRung_57 ⟨Nat.zero_le _, Nat.zero_le _⟩).run) (fun r_57 h_57 => ?_)
          have h_57 : r_57 = (zTow c.2.2.1 nn ((zNext c (z.1 w.toNatClampNeg) p) - p)) := h_57
          subst h_57
          refine lv_istore (lv' := [(4, .int (zTow c.2.2.1 nn ((zNext c (z.1 w.toNatClampNeg) p) - p))), (5, .int (nI k)), (3, .int (zNext c (z.1 w.toNatClampNeg) p)), (0, .ref h), (1, .int w), (2, .int p)]) hx hb dX0_framesToRung_60 hl (by decide) rfl (fun ls hl => ?_)
          refine lv_iinc (v := (nI (k + 1))) (lv' := [(5, .int (nI (k + 1))), (4, .int (zTow c.2.2.1 nn ((zNext c (z.1 w.toNatClampNeg) p) - p))), (3, .int (zNext c (z.1 w.toNatClampNeg) p)), (0, .ref h), (1, .int w), (2, .int p)]) hx hb dX0_framesToRung_62 hl (k := 1) rfl (z_inc k 1) (by decide) rfl (fun ls hl => ?_)
          refine lv_goto (tgt := 32) hx hb dX0_framesToRung_65 (by decide) ?_
          exact ih g (k + 1) _ (by omega) (by omega) ((if_neg c_45).symm.trans he) ls (lv_sub hl [1, 0, 2, 3, 4, 5] rfl)
        · refine lv_iload hx hb dX0_framesToRung_48 (lv_at hl 1 rfl) ?_
          exact W.iret (v := (nI k)) hx hb hr (fun t ht hW => ⟨_, rfl, (if_pos c_45).symm.trans he, ht⟩) (fun _ h9 => nomatch h9) dX0_framesToRung_50
  refine lv_iload_n hx hb dX0_framesToRung_0 rfl (lv_at hl 1 rfl) ?_
  refine va_csv ((va_runS (As := [.int w]) (rest := []) ⟨hx, hb, hml, hown, hts⟩ (c_X0_requireWren_v l w hw) (va_cwS 1 hts gX0_framesToRung_X0_requireWren rfl rfl rfl (by decide +kernel) ⟨Nat.le_of_ble_eq_true rfl, Nat.le_of_ble_eq_true rfl⟩) ⟨zT.blind, zT.call⟩ rfl rfl hl.1 rfl (lv_room (Nat.le_of_ble_eq_true rfl)) dX0_framesToRung_1 ⟨Nat.zero_le _, Nat.zero_le _⟩).run) (fun _ => ?_)
  refine lv_iload_n hx hb dX0_framesToRung_4 rfl (lv_at hl 2 rfl) ?_
  refine va_csv ((va_runS (As := [.int p]) (rest := []) ⟨hx, hb, hml, hown, hts⟩ (c_X0_requirePitch_v l p hp) (va_cwS 1 hts gX0_framesToRung_X0_requirePitch rfl rfl rfl (by decide +kernel) ⟨Nat.le_of_ble_eq_true rfl, Nat.le_of_ble_eq_true rfl⟩) ⟨zT.blind, zT.call⟩ rfl rfl hl.1 rfl (lv_room (Nat.le_of_ble_eq_true rfl)) dX0_framesToRung_5 ⟨Nat.zero_le _, Nat.zero_le _⟩).run) (fun _ => ?_)
  refine lv_aload_n hx hb dX0_framesToRung_8 rfl (lv_at hl 0 rfl) ?_
  refine lv_aload_n hx hb dX0_framesToRung_9 rfl (lv_at hl 0 rfl) ?_
  refine va_get (D := D) (ci := 0) (v := .ref (d 0)) (C := RX0) (T := TX0) (N := 12) hx hb hts hiw hown hK hP 0 rfl rfl 0 (by decide) (hts (.fieldLink RX0 9 "TunedWrens" "rungOfWren" "[I") (by decide +kernel)) (fun _ h9 => h9) rfl dX0_framesToRung_10 ?_
  refine lv_iload_n hx hb dX0_framesToRung_13 rfl (lv_at hl 1 rfl) ?_
  refine va_iald hx hb hK hP 1 0 rfl rfl (zw_in hw) dX0_framesToRung_14 ?_
  refine lv_iload_n hx hb dX0_framesToRung_15 rfl (lv_at hl 2 rfl) ?_
  refine vp_callSi ((va_runV (As := [.int (z.1 w.toNatClampNeg), .int p]) (rest := []) ⟨hx, hb, hml, hown, hts⟩ (c_X0_nextRung l D N0 cA cL E h d z c (z.1 w.toNatClampNeg) p hc hp) (cwV 2 hts gX0_framesToRung_X0_nextRung rfl rfl rfl (by decide +kernel) ⟨Nat.le_of_ble_eq_true rfl, Nat.le_of_ble_eq_true rfl⟩) ⟨zPre.blind, va_recv hK hP (ci := 0) (q0 := 0) rfl rfl, zPre.call hN hP hD hK hE hS⟩ rfl rfl hl.1 rfl (lv_room (Nat.le_of_ble_eq_true rfl)) dX0_framesToRung_16 ⟨Nat.zero_le _, Nat.zero_le _⟩).run) (fun r_16 h_16 => ?_)
  have h_16 : r_16 = (zNext c (z.1 w.toNatClampNeg) p) := h_16
  subst h_16
  refine lv_istore_n (lv' := [(3, .int (zNext c (z.1 w.toNatClampNeg) p)), (0, .ref h), (1, .int w), (2, .int p)]) hx hb dX0_framesToRung_19 rfl hl (by decide) rfl (fun ls hl => ?_)
  refine lv_aload_n hx hb dX0_framesToRung_20 rfl (lv_at hl 1 rfl) ?_
  refine lv_iload_n hx hb dX0_framesToRung_21 rfl (lv_at hl 2 rfl) ?_
  refine lv_iload_n hx hb dX0_framesToRung_22 rfl (lv_at hl 0 rfl) ?_
  refine lv_iload_n hx hb dX0_framesToRung_23 rfl (lv_at hl 3 rfl) ?_
  refine vp_callSi ((va_runV (As := [.int w, .int (zNext c (z.1 w.toNatClampNeg) p), .int p]) (rest := []) ⟨hx, hb, hml, hown, hts⟩ (c_X0_nextNudge l D N0 cA cL E h d z c w (zNext c (z.1 w.toNatClampNeg) p) p hw) (cwV 3 hts gX0_framesToRung_X0_nextNudge rfl rfl rfl (by decide +kernel) ⟨Nat.le_of_ble_eq_true rfl, Nat.le_of_ble_eq_true rfl⟩) ⟨zPre.blind, va_recv hK hP (ci := 0) (q0 := 0) rfl rfl, zPre.call hN hP hD hK hE hS⟩ rfl rfl hl.1 rfl (lv_room (Nat.le_of_ble_eq_true rfl)) dX0_framesToRung_24 ⟨Nat.zero_le _, Nat.zero_le _⟩).run) (fun r_24 h_24 => ?_)
  have h_24 : r_24 = (zNud c (z.1 w.toNatClampNeg) (z.2.1 w.toNatClampNeg) (zNext c (z.1 w.toNatClampNeg) p) p) := h_24
  subst h_24
  refine lv_istore (lv' := [(4, .int (zNud c (z.1 w.toNatClampNeg) (z.2.1 w.toNatClampNeg) (zNext c (z.1 w.toNatClampNeg) p) p)), (3, .int (zNext c (z.1 w.toNatClampNeg) p)), (0, .ref h), (1, .int w), (2, .int p)]) hx hb dX0_framesToRung_27 hl (by decide) rfl (fun ls hl => ?_)
  refine lv_iconst (v := 1) hx hb dX0_framesToRung_29 (by decide) ?_
  refine lv_istore (lv' := [(5, .int 1), (4, .int (zNud c (z.1 w.toNatClampNeg) (z.2.1 w.toNatClampNeg) (zNext c (z.1 w.toNatClampNeg) p) p)), (3, .int (zNext c (z.1 w.toNatClampNeg) p)), (0, .ref h), (1, .int w), (2, .int p)]) hx hb dX0_framesToRung_30 hl (by decide) rfl (fun ls hl => ?_)
  exact loop 1000 999 1 _ (by decide) (by decide) rfl ls (lv_sub hl [1, 0, 2, 3, 4, 5] rfl)
