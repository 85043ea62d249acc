theorem zRm {c : C5} {r : Int32} (h : r = -1 ∨ ∃ j, j ≤ 120 ∧ r = nI (100 * j) ∧ zH c j) : ¬ r < -1 := by
  rcases h with h | ⟨j, h1, h2, -⟩
  · rw [h]; decide
  · rw [h2]
    exact fun q => nI_pos (n := 100 * j) (by omega) (Int32.lt_trans q (by decide))
theorem zRz {c : C5} {r : Int32} (h : r = -1 ∨ ∃ j, j ≤ 120 ∧ r = nI (100 * j) ∧ zH c j) (hn : ¬ r < 0) : zp r := by
  rcases h with h | ⟨j, h1, h2, -⟩
  · exact absurd (by rw [h]; decide) hn
  · rw [h2]; exact zJ_p h1
theorem zRs_s {c : C5} {r : Int32} (h : r = -1 ∨ ∃ j, j ≤ 120 ∧ r = nI (100 * j) ∧ zH c j) (hn : ¬ r < 0) : ¬ zStep c r = -1 := by
  rcases h with h | ⟨j, h1, h2, h3⟩
  · exact absurd (by rw [h]; decide) hn
  · rw [h2]; exact h3
theorem zR12_1 {x : Int32} (h : zR12 x) : ¬ 12000 < x := by
  intro q
  have h1 := (fa_lt _ _).mp q
  have h2 : (12000 : Int32).toInt = 12000 := rfl
  have h3 := h.2
  omega
theorem zR12_2 {x : Int32} (h : zR12 x) : -12000 ≤ x := by
  have h2 : (-12000 : Int32).toInt = -12000 := by decide
  have h3 := h.1
  exact (fa_le _ _).mpr (by omega)
set_option maxHeartbeats 4000000 in
set_option maxRecDepth 100000 in
theorem c_L_areWrensSo (l : Launch) (D : va_G) (N0 : Nat) (cA cL : ClassId) (E : va_W) (h : Nat) (d : Nat → Nat) (z : S7) (c : C5) {B : Nat} (hI : zInv B z c) (hB : B ≤ 9000) : Met l yL_areWrensSo wsL_areWrensSo ({ frames := 4, cells := 0, slots := 0, locals := 89 }) (va_Pc [.ref h] (zPre D N0 cA cL (wX h d cA z c ++ E))) (vp_Si (fun rv => rv = 1)) 0 0 (fun _ => False) := by
  refine Met.ofW (cc := cL_areWrensSo) (maxL := 5) (ret := (some .boolean)) (by decide) rfl ?_
  intro pr e s m ag below meth cd s₁ B hml hv
  obtain ⟨rfl, hN, hP, hD, hK, hE⟩ := hv
  have hx := B.exec
  have hb := B.bytes
  have hr := B.returns
  have hts := atoms_spec (ws := wsL_areWrensSo) B.pre
  have hown : s.vm.findClass RL = some m.cls := findClass_of_methodNamed B.named
  have hlocks := B.notSynchronized
  have hS : va_S (zA N0) s.heap s.heap [] := va_S.rf
  have hl := lv_entry ([.ref h]) (n := 5) (Nat.le_of_ble_eq_true rfl)
  rw [lg_entry_eq]
  generalize (lg_sl ([.ref h]) ++ List.replicate (5 - (lg_sl ([.ref h])).length) Slot.unset).toArray = ls at hl ⊢
  have hl : lv_has ls 5 [(0, .ref h)] := hl
  have hc := hI.okC
  obtain ⟨fr, ch, le, cl, su, h4, h5, h6, h7⟩ := id hI.2.2.2
  have loop2 : ∀ (n : Nat) (k : Nat), k ≤ 12 → 13 ≤ k + n → ∀ (ls : Array Slot), lv_has ls 5 [(3, .int (nI k)), (2, .int (nI (zSu su k))), (1, .int (nI (zSu fr 4))), (0, .ref h)] → W pr l e (headSpec wsL_areWrensSo ({ frames := 4, cells := 0, slots := 0, locals := 89 })).room s m ([.ref h] : List Value).toArray below meth cd s.heap [] 0 0 (MQ below (vp_Si (fun rv => rv = 1)) ([.ref h] : List Value).toArray s 0 0 (fun _ => False)) (F0 m 117 ls []) := by
    intro n
    induction n with
    | zero =>
      intro k hk hn
      omega
    | succ n ih =>
      intro k hk hn ls hl
      refine lv_iload_n hx hb dL_areWrensSo_117 rfl (lv_at hl 0 rfl) ?_
      refine lv_bipush (v := 12) hx hb dL_areWrensSo_118 (by decide) ?_
      refine lv_icmp_ge (tgt := 137) hx hb dL_areWrensSo_120 (by decide) (fun c_120 => ?_) (fun c_120 => ?_)
      · have hk4 : k = 12 := by have := (nI_leI (a := 12) (by decide) (by omega)).mp c_120; omega
        subst hk4
        refine lv_iload_n hx hb dL_areWrensSo_137 rfl (lv_at hl 2 rfl) ?_
        refine lv_iload_n hx hb dL_areWrensSo_138 rfl (lv_at hl 1 rfl) ?_
        refine lv_icmp_ne (tgt := 146) hx hb dL_areWrensSo_139 (by decide) (fun c_139 => ?_) (fun c_139 => ?_)
        · exact absurd (congrArg nI h6) c_139
        · refine lv_iconst (v := 1) hx hb dL_areWrensSo_142 (by decide) ?_
          refine lv_goto (tgt := 147) hx hb dL_areWrensSo_143 (by decide) ?_
          exact W.zret (v := 1) hx hb hr rfl (fun t ht hW => ⟨_, rfl, rfl, ht⟩) (fun _ h9 => nomatch h9) dL_areWrensSo_147
      · have hk4 : k < 12 := Nat.not_le.mp fun q => c_120 ((nI_leI (a := 12) (by decide) (by omega)).mpr q)
        refine lv_iload_n hx hb dL_areWrensSo_123 rfl (lv_at hl 1 rfl) ?_
        refine lv_aload_n hx hb dL_areWrensSo_124 rfl (lv_at hl 3 rfl) ?_
        refine lv_iload_n hx hb dL_areWrensSo_125 rfl (lv_at hl 0 rfl) ?_
        refine vp_callSi ((va_runV (As := [.int (nI k)]) (rest := [.int (nI (zSu su k))]) ⟨hx, hb, hml, hown, hts⟩ (c_X0_sung_v l D N0 cA cL E h d z c (nI k) ⟨nI_pos' (by omega), (nI_leI (b := 11) (by omega) (by decide)).mpr (by omega)⟩) (cwV 1 hts gL_areWrensSo_X0_sung rfl rfl rfl (by decide +kernel) ⟨Nat.le_of_ble_eq_true rfl, Nat.le_of_ble_eq_true rfl⟩) ⟨zPre.blind, va_recv hK hP (ci := 0) (q0 := 0) rfl rfl, zPre.call hN hP hD hK hE hS⟩ rfl rfl hl.1 rfl (lv_room (Nat.le_of_ble_eq_true rfl)) dL_areWrensSo_126 ⟨Nat.zero_le _, Nat.zero_le _⟩).run) (fun r_126 h_126 => ?_)
        have h_126 : r_126 = (z.2.2.2.2.2.2 (nI k).toNatClampNeg) := h_126
        subst h_126
        rw [show ((z.2.2.2.2.2.2 (nI k).toNatClampNeg) : Int32) = (nI (su k)) from (by rw [nI_clamp (by omega)]; exact h5 k hk4)]
        refine lv_iadd hx hb dL_areWrensSo_129 ?_
        rw [show (((nI (zSu su k)) + (nI (su k))) : Int32) = (nI (zSu su (k + 1))) from (nI_add _ _)]
        refine lv_istore_n (lv' := [(2, .int (nI (zSu su (k + 1)))), (3, .int (nI k)), (1, .int (nI (zSu fr 4))), (0, .ref h)]) hx hb dL_areWrensSo_130 rfl hl (by decide) rfl (fun ls hl => ?_)
        refine lv_iinc (v := (nI (k + 1))) (lv' := [(3, .int (nI (k + 1))), (2, .int (nI (zSu su (k + 1)))), (1, .int (nI (zSu fr 4))), (0, .ref h)]) hx hb dL_areWrensSo_131 hl (k := 1) rfl (z_inc k 1) (by decide) rfl (fun ls hl => ?_)
        refine lv_goto (tgt := 117) hx hb dL_areWrensSo_134 (by decide) ?_
        exact ih (k + 1) (by omega) (by omega) ls (lv_sub hl [0, 1, 2, 3] rfl)
  have loop : ∀ (n : Nat) (k : Nat), k ≤ 4 → 5 ≤ k + n → ∀ (ls : Array Slot), lv_has ls 5 [(3, .int (nI k)), (1, .int (nI (zSu fr k))), (2, .int 0), (0, .ref h)] → W pr l e (headSpec wsL_areWrensSo ({ frames := 4, cells := 0, slots := 0, locals := 89 })).room s m ([.ref h] : List Value).toArray below meth cd s.heap [] 0 0 (MQ below (vp_Si (fun rv => rv = 1)) ([.ref h] : List Value).toArray s 0 0 (fun _ => False)) (F0 m 6 ls []) := by
    intro n
    induction n with
    | zero =>
      intro k hk hn
      omega
    | succ n ih =>
      intro k hk hn ls hl
      refine lv_iload_n hx hb dL_areWrensSo_6 rfl (lv_at hl 0 rfl) ?_
      refine lv_iconst (v := 4) hx hb dL_areWrensSo_7 (by decide) ?_
      refine lv_icmp_ge (tgt := 115) hx hb dL_areWrensSo_8 (by decide) (fun c_8 => ?_) (fun c_8 => ?_)
      · have hk4 : k = 4 := by have := (nI_leI (a := 4) (by decide) (by omega)).mp c_8; omega
        subst hk4
        refine lv_iconst (v := 0) hx hb dL_areWrensSo_115 (by decide) ?_
        refine lv_istore_n (lv' := [(3, .int 0), (1, .int (nI (zSu fr 4))), (2, .int 0), (0, .ref h)]) hx hb dL_areWrensSo_116 rfl hl (by decide) rfl (fun ls hl => ?_)
        exact loop2 13 0 (by decide) (by decide) ls (lv_sub hl [0, 2, 1, 3] rfl)
      · have hk4 : k < 4 := Nat.not_le.mp fun q => c_8 ((nI_leI (a := 4) (by decide) (by omega)).mpr q)
        have hw : zw (nI k) := ⟨nI_pos' (by omega), (nI_leI (b := 3) (by omega) (by decide)).mpr (by omega)⟩
        obtain ⟨a1, a2, a3, a4, a5, a6, a7⟩ := h4 k hk4
        have hsu := zSu_mem (f := fr) 4 k hk4
        have hR := hI.2.1 k hk4
        have hG := hI.2.2.1 k hk4
        refine lv_aload_n hx hb dL_areWrensSo_11 rfl (lv_at hl 3 rfl) ?_
        refine lv_iload_n hx hb dL_areWrensSo_12 rfl (lv_at hl 0 rfl) ?_
        refine vp_callSi ((va_runV (As := [.int (nI k)]) (rest := []) ⟨hx, hb, hml, hown, hts⟩ (c_X0_rungOf_v l D N0 cA cL E h d z c (nI k) hw) (cwV 1 hts gL_areWrensSo_X0_rungOf rfl rfl rfl (by decide +kernel) ⟨Nat.le_of_ble_eq_true rfl, Nat.le_of_ble_eq_true rfl⟩) ⟨zPre.blind, va_recv hK hP (ci := 0) (q0 := 0) rfl rfl, zPre.call hN hP hD hK hE hS⟩ rfl rfl hl.1 rfl (lv_room (Nat.le_of_ble_eq_true rfl)) dL_areWrensSo_13 ⟨Nat.zero_le _, Nat.zero_le _⟩).run) (fun r_13 h_13 => ?_)
        have h_13 : r_13 = (z.1 (nI k).toNatClampNeg) := h_13
        subst h_13
        rw [show ((z.1 (nI k).toNatClampNeg) : Int32) = (z.1 k) from (by rw [nI_clamp (by omega)])]
        refine lv_istore (lv' := [(4, .int (z.1 k)), (3, .int (nI k)), (1, .int (nI (zSu fr k))), (2, .int 0), (0, .ref h)]) hx hb dL_areWrensSo_16 hl (by decide) rfl (fun ls hl => ?_)
        refine lv_iload_n hx hb dL_areWrensSo_18 rfl (lv_at hl 2 rfl) ?_
        refine lv_aload_n hx hb dL_areWrensSo_19 rfl (lv_at hl 4 rfl) ?_
        refine lv_iload_n hx hb dL_areWrensSo_20 rfl (lv_at hl 1 rfl) ?_
        refine vp_callSi ((va_runV (As := [.int (nI k)]) (rest := [.int (nI (zSu fr k))]) ⟨hx, hb, hml, hown, hts⟩ (c_X0_framesOf_v l D N0 cA cL E h d z c (nI k) hw) (cwV 1 hts gL_areWrensSo_X0_framesOf rfl rfl rfl (by decide +kernel) ⟨Nat.le_of_ble_eq_true rfl, Nat.le_of_ble_eq_true rfl⟩) ⟨zPre.blind, va_recv hK hP (ci := 0) (q0 := 0) rfl rfl, zPre.call hN hP hD hK hE hS⟩ rfl rfl hl.1 rfl (lv_room (Nat.le_of_ble_eq_true rfl)) dL_areWrensSo_21 ⟨Nat.zero_le _, Nat.zero_le _⟩).run) (fun r_21 h_21 => ?_)
        have h_21 : r_21 = (z.2.2.1 (nI k).toNatClampNeg) := h_21
        subst h_21
        rw [show ((z.2.2.1 (nI k).toNatClampNeg) : Int32) = (nI (fr k)) from (by rw [nI_clamp (by omega)]; exact a1)]
        refine lv_iadd hx hb dL_areWrensSo_24 ?_
        rw [show (((nI (zSu fr k)) + (nI (fr k))) : Int32) = (nI (zSu fr (k + 1))) from (nI_add _ _)]
        refine lv_istore_n (lv' := [(1, .int (nI (zSu fr (k + 1)))), (4, .int (z.1 k)), (3, .int (nI k)), (2, .int 0), (0, .ref h)]) hx hb dL_areWrensSo_25 rfl hl (by decide) rfl (fun ls hl => ?_)
        refine lv_iload hx hb dL_areWrensSo_26 (lv_at hl 1 rfl) ?_
        refine lv_iconst (v := (-1)) hx hb dL_areWrensSo_28 (by decide) ?_
        refine lv_icmp_lt (tgt := 107) hx hb dL_areWrensSo_29 (by decide) (fun c_29 => ?_) (fun c_29 => ?_)
        · exact absurd c_29 (zRm hR)
        · refine lv_iload hx hb dL_areWrensSo_32 (lv_at hl 1 rfl) ?_
          refine lv_if_lt (tgt := 46) hx hb dL_areWrensSo_34 (by decide) (fun c_34 => ?_) (fun c_34 => ?_)
          · refine lv_aload_n hx hb dL_areWrensSo_46 rfl (lv_at hl 4 rfl) ?_
            refine lv_iload_n hx hb dL_areWrensSo_47 rfl (lv_at hl 2 rfl) ?_
            refine vp_callSi ((va_runV (As := [.int (nI k)]) (rest := []) ⟨hx, hb, hml, hown, hts⟩ (c_X0_leapsOf_v l D N0 cA cL E h d z c (nI k) hw) (cwV 1 hts gL_areWrensSo_X0_leapsOf rfl rfl rfl (by decide +kernel) ⟨Nat.le_of_ble_eq_true rfl, Nat.le_of_ble_eq_true rfl⟩) ⟨zPre.blind, va_recv hK hP (ci := 0) (q0 := 0) rfl rfl, zPre.call hN hP hD hK hE hS⟩ rfl rfl hl.1 rfl (lv_room (Nat.le_of_ble_eq_true rfl)) dL_areWrensSo_48 ⟨Nat.zero_le _, Nat.zero_le _⟩).run) (fun r_48 h_48 => ?_)
            have h_48 : r_48 = (z.2.2.2.2.1 (nI k).toNatClampNeg) := h_48
            subst h_48
            rw [show ((z.2.2.2.2.1 (nI k).toNatClampNeg) : Int32) = (nI (le k)) from (by rw [nI_clamp (by omega)]; exact a3)]
            refine lv_aload_n hx hb dL_areWrensSo_51 rfl (lv_at hl 4 rfl) ?_
            refine lv_iload_n hx hb dL_areWrensSo_52 rfl (lv_at hl 2 rfl) ?_
            refine vp_callSi ((va_runV (As := [.int (nI k)]) (rest := [.int (nI (le k))]) ⟨hx, hb, hml, hown, hts⟩ (c_X0_changesOf_v l D N0 cA cL E h d z c (nI k) hw) (cwV 1 hts gL_areWrensSo_X0_changesOf rfl rfl rfl (by decide +kernel) ⟨Nat.le_of_ble_eq_true rfl, Nat.le_of_ble_eq_true rfl⟩) ⟨zPre.blind, va_recv hK hP (ci := 0) (q0 := 0) rfl rfl, zPre.call hN hP hD hK hE hS⟩ rfl rfl hl.1 rfl (lv_room (Nat.le_of_ble_eq_true rfl)) dL_areWrensSo_53 ⟨Nat.zero_le _, Nat.zero_le _⟩).run) (fun r_53 h_53 => ?_)
            have h_53 : r_53 = (z.2.2.2.1 (nI k).toNatClampNeg) := h_53
            subst h_53
            rw [show ((z.2.2.2.1 (nI k).toNatClampNeg) : Int32) = (nI (ch k)) from (by rw [nI_clamp (by omega)]; exact a2)]
            refine lv_icmp_gt (tgt := 107) hx hb dL_areWrensSo_56 (by decide) (fun c_56 => ?_) (fun c_56 => ?_)
            · exact absurd c_56 (nI_nlt a5 (by omega))
            · refine lv_aload_n hx hb dL_areWrensSo_59 rfl (lv_at hl 4 rfl) ?_
              refine lv_iload_n hx hb dL_areWrensSo_60 rfl (lv_at hl 2 rfl) ?_
              refine vp_callSi ((va_runV (As := [.int (nI k)]) (rest := []) ⟨hx, hb, hml, hown, hts⟩ (c_X0_changesOf_v l D N0 cA cL E h d z c (nI k) hw) (cwV 1 hts gL_areWrensSo_X0_changesOf rfl rfl rfl (by decide +kernel) ⟨Nat.le_of_ble_eq_true rfl, Nat.le_of_ble_eq_true rfl⟩) ⟨zPre.blind, va_recv hK hP (ci := 0) (q0 := 0) rfl rfl, zPre.call hN hP hD hK hE hS⟩ rfl rfl hl.1 rfl (lv_room (Nat.le_of_ble_eq_true rfl)) dL_areWrensSo_61 ⟨Nat.zero_le _, Nat.zero_le _⟩).run) (fun r_61 h_61 => ?_)
              have h_61 : r_61 = (z.2.2.2.1 (nI k).toNatClampNeg) := h_61
              subst h_61
              rw [show ((z.2.2.2.1 (nI k).toNatClampNeg) : Int32) = (nI (ch k)) from (by rw [nI_clamp (by omega)]; exact a2)]
              refine lv_aload_n hx hb dL_areWrensSo_64 rfl (lv_at hl 4 rfl) ?_
              refine lv_iload_n hx hb dL_areWrensSo_65 rfl (lv_at hl 2 rfl) ?_
              refine vp_callSi ((va_runV (As := [.int (nI k)]) (rest := [.int (nI (ch k))]) ⟨hx, hb, hml, hown, hts⟩ (c_X0_framesOf_v l D N0 cA cL E h d z c (nI k) hw) (cwV 1 hts gL_areWrensSo_X0_framesOf rfl rfl rfl (by decide +kernel) ⟨Nat.le_of_ble_eq_true rfl, Nat.le_of_ble_eq_true rfl⟩) ⟨zPre.blind, va_recv hK hP (ci := 0) (q0 := 0) rfl rfl, zPre.call hN hP hD hK hE hS⟩ rfl rfl hl.1 rfl (lv_room (Nat.le_of_ble_eq_true rfl)) dL_areWrensSo_66 ⟨Nat.zero_le _, Nat.zero_le _⟩).run) (fun r_66 h_66 => ?_)
              have h_66 : r_66 = (z.2.2.1 (nI k).toNatClampNeg) := h_66
              subst h_66
              rw [show ((z.2.2.1 (nI k).toNatClampNeg) : Int32) = (nI (fr k)) from (by rw [nI_clamp (by omega)]; exact a1)]
              refine lv_icmp_gt (tgt := 107) hx hb dL_areWrensSo_69 (by decide) (fun c_69 => ?_) (fun c_69 => ?_)
              · exact absurd c_69 (nI_nlt a6 (by omega))
              · refine lv_aload_n hx hb dL_areWrensSo_72 rfl (lv_at hl 4 rfl) ?_
                refine lv_iload_n hx hb dL_areWrensSo_73 rfl (lv_at hl 2 rfl) ?_
                refine vp_callSi ((va_runV (As := [.int (nI k)]) (rest := []) ⟨hx, hb, hml, hown, hts⟩ (c_X0_cleanOf_v l D N0 cA cL E h d z c (nI k) hw) (cwV 1 hts gL_areWrensSo_X0_cleanOf rfl rfl rfl (by decide +kernel) ⟨Nat.le_of_ble_eq_true rfl, Nat.le_of_ble_eq_true rfl⟩) ⟨zPre.blind, va_recv hK hP (ci := 0) (q0 := 0) rfl rfl, zPre.call hN hP hD hK hE hS⟩ rfl rfl hl.1 rfl (lv_room (Nat.le_of_ble_eq_true rfl)) dL_areWrensSo_74 ⟨Nat.zero_le _, Nat.zero_le _⟩).run) (fun r_74 h_74 => ?_)
                have h_74 : r_74 = (z.2.2.2.2.2.1 (nI k).toNatClampNeg) := h_74
                subst h_74
                rw [show ((z.2.2.2.2.2.1 (nI k).toNatClampNeg) : Int32) = (nI (cl k)) from (by rw [nI_clamp (by omega)]; exact a4)]
                refine lv_aload_n hx hb dL_areWrensSo_77 rfl (lv_at hl 4 rfl) ?_
                refine lv_iload_n hx hb dL_areWrensSo_78 rfl (lv_at hl 2 rfl) ?_
                refine vp_callSi ((va_runV (As := [.int (nI k)]) (rest := [.int (nI (cl k))]) ⟨hx, hb, hml, hown, hts⟩ (c_X0_framesOf_v l D N0 cA cL E h d z c (nI k) hw) (cwV 1 hts gL_areWrensSo_X0_framesOf rfl rfl rfl (by decide +kernel) ⟨Nat.le_of_ble_eq_true rfl, Nat.le_of_ble_eq_true rfl⟩) ⟨zPre.blind, va_recv hK hP (ci := 0) (q0 := 0) rfl rfl, zPre.call hN hP hD hK hE hS⟩ rfl rfl hl.1 rfl (lv_room (Nat.le_of_ble_eq_true rfl)) dL_areWrensSo_79 ⟨Nat.zero_le _, Nat.zero_le _⟩).run) (fun r_79 h_79 => ?_)
                have h_79 : r_79 = (z.2.2.1 (nI k).toNatClampNeg) := h_79
                subst h_79
                rw [show ((z.2.2.1 (nI k).toNatClampNeg) : Int32) = (nI (fr k)) from (by rw [nI_clamp (by omega)]; exact a1)]
                refine lv_icmp_gt (tgt := 107) hx hb dL_areWrensSo_82 (by decide) (fun c_82 => ?_) (fun c_82 => ?_)
                · exact absurd c_82 (nI_nlt a7 (by omega))
                · refine lv_aload_n hx hb dL_areWrensSo_85 rfl (lv_at hl 4 rfl) ?_
                  refine lv_iload_n hx hb dL_areWrensSo_86 rfl (lv_at hl 2 rfl) ?_
                  refine vp_callSi ((va_runV (As := [.int (nI k)]) (rest := []) ⟨hx, hb, hml, hown, hts⟩ (c_X0_nudgeOf_v l D N0 cA cL E h d z c (nI k) hw) (cwV 1 hts gL_areWrensSo_X0_nudgeOf rfl rfl rfl (by decide +kernel) ⟨Nat.le_of_ble_eq_true rfl, Nat.le_of_ble_eq_true rfl⟩) ⟨zPre.blind, va_recv hK hP (ci := 0) (q0 := 0) rfl rfl, zPre.call hN hP hD hK hE hS⟩ rfl rfl hl.1 rfl (lv_room (Nat.le_of_ble_eq_true rfl)) dL_areWrensSo_87 ⟨Nat.zero_le _, Nat.zero_le _⟩).run) (fun r_87 h_87 => ?_)
                  have h_87 : r_87 = (z.2.1 (nI k).toNatClampNeg) := h_87
                  subst h_87
                  rw [show ((z.2.1 (nI k).toNatClampNeg) : Int32) = (z.2.1 k) from (by rw [nI_clamp (by omega)])]
                  refine lv_sipush (v := 12000) hx hb dL_areWrensSo_90 (by decide) ?_
                  refine lv_icmp_gt (tgt := 107) hx hb dL_areWrensSo_93 (by decide) (fun c_93 => ?_) (fun c_93 => ?_)
                  · exact absurd c_93 (zR12_1 hG)
                  · refine lv_aload_n hx hb dL_areWrensSo_96 rfl (lv_at hl 4 rfl) ?_
                    refine lv_iload_n hx hb dL_areWrensSo_97 rfl (lv_at hl 2 rfl) ?_
                    refine vp_callSi ((va_runV (As := [.int (nI k)]) (rest := []) ⟨hx, hb, hml, hown, hts⟩ (c_X0_nudgeOf_v l D N0 cA cL E h d z c (nI k) hw) (cwV 1 hts gL_areWrensSo_X0_nudgeOf rfl rfl rfl (by decide +kernel) ⟨Nat.le_of_ble_eq_true rfl, Nat.le_of_ble_eq_true rfl⟩) ⟨zPre.blind, va_recv hK hP (ci := 0) (q0 := 0) rfl rfl, zPre.call hN hP hD hK hE hS⟩ rfl rfl hl.1 rfl (lv_room (Nat.le_of_ble_eq_true rfl)) dL_areWrensSo_98 ⟨Nat.zero_le _, Nat.zero_le _⟩).run) (fun r_98 h_98 => ?_)
                    have h_98 : r_98 = (z.2.1 (nI k).toNatClampNeg) := h_98
                    subst h_98
                    rw [show ((z.2.1 (nI k).toNatClampNeg) : Int32) = (z.2.1 k) from (by rw [nI_clamp (by omega)])]
                    refine lv_sipush (v := (-12000)) hx hb dL_areWrensSo_101 (by decide) ?_
                    refine lv_icmp_ge (tgt := 109) hx hb dL_areWrensSo_104 (by decide) (fun c_104 => ?_) (fun c_104 => ?_)
                    · refine lv_iinc (v := (nI (k + 1))) (lv' := [(3, .int (nI (k + 1))), (1, .int (nI (zSu fr (k + 1)))), (4, .int (z.1 k)), (2, .int 0), (0, .ref h)]) hx hb dL_areWrensSo_109 hl (k := 2) rfl (z_inc k 1) (by decide) rfl (fun ls hl => ?_)
                      refine lv_goto (tgt := 6) hx hb dL_areWrensSo_112 (by decide) ?_
                      exact ih (k + 1) (by omega) (by omega) ls (lv_sub hl [0, 1, 3, 4] rfl)
                    · exact absurd (zR12_2 hG) c_104
          · refine lv_aload_n hx hb dL_areWrensSo_37 rfl (lv_at hl 4 rfl) ?_
            refine lv_iload hx hb dL_areWrensSo_38 (lv_at hl 1 rfl) ?_
            refine vp_callSi ((va_runV (As := [.int (z.1 k)]) (rest := []) ⟨hx, hb, hml, hown, hts⟩ (c_X0_stepOf_v l D N0 cA cL E h d z c (z.1 k) hc (zRz hR c_34)) (cwV 1 hts gL_areWrensSo_X0_stepOf rfl rfl rfl (by decide +kernel) ⟨Nat.le_of_ble_eq_true rfl, Nat.le_of_ble_eq_true rfl⟩) ⟨zPre.blind, va_recv hK hP (ci := 0) (q0 := 0) rfl rfl, zPre.call hN hP hD hK hE hS⟩ rfl rfl hl.1 rfl (lv_room (Nat.le_of_ble_eq_true rfl)) dL_areWrensSo_40 ⟨Nat.zero_le _, Nat.zero_le _⟩).run) (fun r_40 h_40 => ?_)
            have h_40 : r_40 = (zStep c (z.1 k)) := h_40
            subst h_40
            refine lv_if_lt (tgt := 107) hx hb dL_areWrensSo_43 (by decide) (fun c_43 => ?_) (fun c_43 => ?_)
            · exact absurd ((zStep_neg hc _).mp c_43) (zRs_s hR c_34)
            · refine lv_aload_n hx hb dL_areWrensSo_46 rfl (lv_at hl 4 rfl) ?_
              refine lv_iload_n hx hb dL_areWrensSo_47 rfl (lv_at hl 2 rfl) ?_
              refine vp_callSi ((va_runV (As := [.int (nI k)]) (rest := []) ⟨hx, hb, hml, hown, hts⟩ (c_X0_leapsOf_v l D N0 cA cL E h d z c (nI k) hw) (cwV 1 hts gL_areWrensSo_X0_leapsOf rfl rfl rfl (by decide +kernel) ⟨Nat.le_of_ble_eq_true rfl, Nat.le_of_ble_eq_true rfl⟩) ⟨zPre.blind, va_recv hK hP (ci := 0) (q0 := 0) rfl rfl, zPre.call hN hP hD hK hE hS⟩ rfl rfl hl.1 rfl (lv_room (Nat.le_of_ble_eq_true rfl)) dL_areWrensSo_48 ⟨Nat.zero_le _, Nat.zero_le _⟩).run) (fun r_48 h_48 => ?_)
              have h_48 : r_48 = (z.2.2.2.2.1 (nI k).toNatClampNeg) := h_48
              subst h_48
              rw [show ((z.2.2.2.2.1 (nI k).toNatClampNeg) : Int32) = (nI (le k)) from (by rw [nI_clamp (by omega)]; exact a3)]
              refine lv_aload_n hx hb dL_areWrensSo_51 rfl (lv_at hl 4 rfl) ?_
              refine lv_iload_n hx hb dL_areWrensSo_52 rfl (lv_at hl 2 rfl) ?_
              refine vp_callSi ((va_runV (As := [.int (nI k)]) (rest := [.int (nI (le k))]) ⟨hx, hb, hml, hown, hts⟩ (c_X0_changesOf_v l D N0 cA cL E h d z c (nI k) hw) (cwV 1 hts gL_areWrensSo_X0_changesOf rfl rfl rfl (by decide +kernel) ⟨Nat.le_of_ble_eq_true rfl, Nat.le_of_ble_eq_true rfl⟩) ⟨zPre.blind, va_recv hK hP (ci := 0) (q0 := 0) rfl rfl, zPre.call hN hP hD hK hE hS⟩ rfl rfl hl.1 rfl (lv_room (Nat.le_of_ble_eq_true rfl)) dL_areWrensSo_53 ⟨Nat.zero_le _, Nat.zero_le _⟩).run) (fun r_53 h_53 => ?_)
              have h_53 : r_53 = (z.2.2.2.1 (nI k).toNatClampNeg) := h_53
              subst h_53
              rw [show ((z.2.2.2.1 (nI k).toNatClampNeg) : Int32) = (nI (ch k)) from (by rw [nI_clamp (by omega)]; exact a2)]
              refine lv_icmp_gt (tgt := 107) hx hb dL_areWrensSo_56 (by decide) (fun c_56 => ?_) (fun c_56 => ?_)
              · exact absurd c_56 (nI_nlt a5 (by omega))
              · refine lv_aload_n hx hb dL_areWrensSo_59 rfl (lv_at hl 4 rfl) ?_
                refine lv_iload_n hx hb dL_areWrensSo_60 rfl (lv_at hl 2 rfl) ?_
                refine vp_callSi ((va_runV (As := [.int (nI k)]) (rest := []) ⟨hx, hb, hml, hown, hts⟩ (c_X0_changesOf_v l D N0 cA cL E h d z c (nI k) hw) (cwV 1 hts gL_areWrensSo_X0_changesOf rfl rfl rfl (by decide +kernel) ⟨Nat.le_of_ble_eq_true rfl, Nat.le_of_ble_eq_true rfl⟩) ⟨zPre.blind, va_recv hK hP (ci := 0) (q0 := 0) rfl rfl, zPre.call hN hP hD hK hE hS⟩ rfl rfl hl.1 rfl (lv_room (Nat.le_of_ble_eq_true rfl)) dL_areWrensSo_61 ⟨Nat.zero_le _, Nat.zero_le _⟩).run) (fun r_61 h_61 => ?_)
                have h_61 : r_61 = (z.2.2.2.1 (nI k).toNatClampNeg) := h_61
                subst h_61
                rw [show ((z.2.2.2.1 (nI k).toNatClampNeg) : Int32) = (nI (ch k)) from (by rw [nI_clamp (by omega)]; exact a2)]
                refine lv_aload_n hx hb dL_areWrensSo_64 rfl (lv_at hl 4 rfl) ?_
                refine lv_iload_n hx hb dL_areWrensSo_65 rfl (lv_at hl 2 rfl) ?_
                refine vp_callSi ((va_runV (As := [.int (nI k)]) (rest := [.int (nI (ch k))]) ⟨hx, hb, hml, hown, hts⟩ (c_X0_framesOf_v l D N0 cA cL E h d z c (nI k) hw) (cwV 1 hts gL_areWrensSo_X0_framesOf rfl rfl rfl (by decide +kernel) ⟨Nat.le_of_ble_eq_true rfl, Nat.le_of_ble_eq_true rfl⟩) ⟨zPre.blind, va_recv hK hP (ci := 0) (q0 := 0) rfl rfl, zPre.call hN hP hD hK hE hS⟩ rfl rfl hl.1 rfl (lv_room (Nat.le_of_ble_eq_true rfl)) dL_areWrensSo_66 ⟨Nat.zero_le _, Nat.zero_le _⟩).run) (fun r_66 h_66 => ?_)
                have h_66 : r_66 = (z.2.2.1 (nI k).toNatClampNeg) := h_66
                subst h_66
                rw [show ((z.2.2.1 (nI k).toNatClampNeg) : Int32) = (nI (fr k)) from (by rw [nI_clamp (by omega)]; exact a1)]
                refine lv_icmp_gt (tgt := 107) hx hb dL_areWrensSo_69 (by decide) (fun c_69 => ?_) (fun c_69 => ?_)
                · exact absurd c_69 (nI_nlt a6 (by omega))
                · refine lv_aload_n hx hb dL_areWrensSo_72 rfl (lv_at hl 4 rfl) ?_
                  refine lv_iload_n hx hb dL_areWrensSo_73 rfl (lv_at hl 2 rfl) ?_
                  refine vp_callSi ((va_runV (As := [.int (nI k)]) (rest := []) ⟨hx, hb, hml, hown, hts⟩ (c_X0_cleanOf_v l D N0 cA cL E h d z c (nI k) hw) (cwV 1 hts gL_areWrensSo_X0_cleanOf rfl rfl rfl (by decide +kernel) ⟨Nat.le_of_ble_eq_true rfl, Nat.le_of_ble_eq_true rfl⟩) ⟨zPre.blind, va_recv hK hP (ci := 0) (q0 := 0) rfl rfl, zPre.call hN hP hD hK hE hS⟩ rfl rfl hl.1 rfl (lv_room (Nat.le_of_ble_eq_true rfl)) dL_areWrensSo_74 ⟨Nat.zero_le _, Nat.zero_le _⟩).run) (fun r_74 h_74 => ?_)
                  have h_74 : r_74 = (z.2.2.2.2.2.1 (nI k).toNatClampNeg) := h_74
                  subst h_74
                  rw [show ((z.2.2.2.2.2.1 (nI k).toNatClampNeg) : Int32) = (nI (cl k)) from (by rw [nI_clamp (by omega)]; exact a4)]
                  refine lv_aload_n hx hb dL_areWrensSo_77 rfl (lv_at hl 4 rfl) ?_
                  refine lv_iload_n hx hb dL_areWrensSo_78 rfl (lv_at hl 2 rfl) ?_
                  refine vp_callSi ((va_runV (As := [.int (nI k)]) (rest := [.int (nI (cl k))]) ⟨hx, hb, hml, hown, hts⟩ (c_X0_framesOf_v l D N0 cA cL E h d z c (nI k) hw) (cwV 1 hts gL_areWrensSo_X0_framesOf rfl rfl rfl (by decide +kernel) ⟨Nat.le_of_ble_eq_true rfl, Nat.le_of_ble_eq_true rfl⟩) ⟨zPre.blind, va_recv hK hP (ci := 0) (q0 := 0) rfl rfl, zPre.call hN hP hD hK hE hS⟩ rfl rfl hl.1 rfl (lv_room (Nat.le_of_ble_eq_true rfl)) dL_areWrensSo_79 ⟨Nat.zero_le _, Nat.zero_le _⟩).run) (fun r_79 h_79 => ?_)
                  have h_79 : r_79 = (z.2.2.1 (nI k).toNatClampNeg) := h_79
                  subst h_79
                  rw [show ((z.2.2.1 (nI k).toNatClampNeg) : Int32) = (nI (fr k)) from (by rw [nI_clamp (by omega)]; exact a1)]
                  refine lv_icmp_gt (tgt := 107) hx hb dL_areWrensSo_82 (by decide) (fun c_82 => ?_) (fun c_82 => ?_)
                  · exact absurd c_82 (nI_nlt a7 (by omega))
                  · refine lv_aload_n hx hb dL_areWrensSo_85 rfl (lv_at hl 4 rfl) ?_
                    refine lv_iload_n hx hb dL_areWrensSo_86 rfl (lv_at hl 2 rfl) ?_
                    refine vp_callSi ((va_runV (As := [.int (nI k)]) (rest := []) ⟨hx, hb, hml, hown, hts⟩ (c_X0_nudgeOf_v l D N0 cA cL E h d z c (nI k) hw) (cwV 1 hts gL_areWrensSo_X0_nudgeOf rfl rfl rfl (by decide +kernel) ⟨Nat.le_of_ble_eq_true rfl, Nat.le_of_ble_eq_true rfl⟩) ⟨zPre.blind, va_recv hK hP (ci := 0) (q0 := 0) rfl rfl, zPre.call hN hP hD hK hE hS⟩ rfl rfl hl.1 rfl (lv_room (Nat.le_of_ble_eq_true rfl)) dL_areWrensSo_87 ⟨Nat.zero_le _, Nat.zero_le _⟩).run) (fun r_87 h_87 => ?_)
                    have h_87 : r_87 = (z.2.1 (nI k).toNatClampNeg) := h_87
                    subst h_87
                    rw [show ((z.2.1 (nI k).toNatClampNeg) : Int32) = (z.2.1 k) from (by rw [nI_clamp (by omega)])]
                    refine lv_sipush (v := 12000) hx hb dL_areWrensSo_90 (by decide) ?_
                    refine lv_icmp_gt (tgt := 107) hx hb dL_areWrensSo_93 (by decide) (fun c_93 => ?_) (fun c_93 => ?_)
                    · exact absurd c_93 (zR12_1 hG)
                    · refine lv_aload_n hx hb dL_areWrensSo_96 rfl (lv_at hl 4 rfl) ?_
                      refine lv_iload_n hx hb dL_areWrensSo_97 rfl (lv_at hl 2 rfl) ?_
                      refine vp_callSi ((va_runV (As := [.int (nI k)]) (rest := []) ⟨hx, hb, hml, hown, hts⟩ (c_X0_nudgeOf_v l D N0 cA cL E h d z c (nI k) hw) (cwV 1 hts gL_areWrensSo_X0_nudgeOf rfl rfl rfl (by decide +kernel) ⟨Nat.le_of_ble_eq_true rfl, Nat.le_of_ble_eq_true rfl⟩) ⟨zPre.blind, va_recv hK hP (ci := 0) (q0 := 0) rfl rfl, zPre.call hN hP hD hK hE hS⟩ rfl rfl hl.1 rfl (lv_room (Nat.le_of_ble_eq_true rfl)) dL_areWrensSo_98 ⟨Nat.zero_le _, Nat.zero_le _⟩).run) (fun r_98 h_98 => ?_)
                      have h_98 : r_98 = (z.2.1 (nI k).toNatClampNeg) := h_98
                      subst h_98
                      rw [show ((z.2.1 (nI k).toNatClampNeg) : Int32) = (z.2.1 k) from (by rw [nI_clamp (by omega)])]
                      refine lv_sipush (v := (-12000)) hx hb dL_areWrensSo_101 (by decide) ?_
                      refine lv_icmp_ge (tgt := 109) hx hb dL_areWrensSo_104 (by decide) (fun c_104 => ?_) (fun c_104 => ?_)
                      · refine lv_iinc (v := (nI (k + 1))) (lv' := [(3, .int (nI (k + 1))), (1, .int (nI (zSu fr (k + 1)))), (4, .int (z.1 k)), (2, .int 0), (0, .ref h)]) hx hb dL_areWrensSo_109 hl (k := 2) rfl (z_inc k 1) (by decide) rfl (fun ls hl => ?_)
                        refine lv_goto (tgt := 6) hx hb dL_areWrensSo_112 (by decide) ?_
                        exact ih (k + 1) (by omega) (by omega) ls (lv_sub hl [0, 1, 3, 4] rfl)
                      · exact absurd (zR12_2 hG) c_104
  refine lv_iconst (v := 0) hx hb dL_areWrensSo_0 (by decide) ?_
  refine lv_istore_n (lv' := [(1, .int 0), (0, .ref h)]) hx hb dL_areWrensSo_1 rfl hl (by decide) rfl (fun ls hl => ?_)
  refine lv_iconst (v := 0) hx hb dL_areWrensSo_2 (by decide) ?_
  refine lv_istore_n (lv' := [(2, .int 0), (1, .int 0), (0, .ref h)]) hx hb dL_areWrensSo_3 rfl hl (by decide) rfl (fun ls hl => ?_)
  refine lv_iconst (v := 0) hx hb dL_areWrensSo_4 (by decide) ?_
  refine lv_istore_n (lv' := [(3, .int 0), (2, .int 0), (1, .int 0), (0, .ref h)]) hx hb dL_areWrensSo_5 rfl hl (by decide) rfl (fun ls hl => ?_)
  exact loop 5 0 (by decide) (by decide) ls (lv_sub hl [0, 2, 1, 3] rfl)
