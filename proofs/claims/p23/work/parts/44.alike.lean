set_option maxHeartbeats 4000000 in
set_option maxRecDepth 100000 in
theorem c_L_areAlike (l : Launch) (D : va_G) (N0 : Nat) (cA cL : ClassId) (h : Nat) (d : Nat → Nat) (h2 : Nat) (d2 : Nat → Nat) (z : S7) (c : C5) (hc : okC c) : Met l yL_areAlike wsL_areAlike ({ frames := 7, cells := 0, slots := 0, locals := 160 }) (va_Pc [.ref h, .ref h2] (zPre D N0 cA cL (wX h d cA z c ++ (wX h2 d2 cA z c)))) (vp_Si (fun rv => rv = 1)) 0 0 (fun _ => False) := by
  refine Met.ofW (cc := cL_areAlike) (maxL := 4) (ret := (some .boolean)) (by decide) rfl ?_
  intro pr e s m ag below meth cd s₁ B hml hv
  obtain ⟨rfl, hN, hP, hD, hK, hE⟩ := hv
  have hx := B.exec
  have hb := B.bytes
  have hr := B.returns
  have hts := atoms_spec (ws := wsL_areAlike) B.pre
  have hown : s.vm.findClass RL = some m.cls := findClass_of_methodNamed B.named
  have hlocks := B.notSynchronized
  have hS : va_S (zA N0) s.heap s.heap [] := va_S.rf
  have hl := lv_entry ([.ref h, .ref h2]) (n := 4) (Nat.le_of_ble_eq_true rfl)
  rw [lg_entry_eq]
  generalize (lg_sl ([.ref h, .ref h2]) ++ List.replicate (4 - (lg_sl ([.ref h, .ref h2])).length) Slot.unset).toArray = ls at hl ⊢
  have hl : lv_has ls 4 [(0, .ref h), (1, .ref h2)] := hl
  have hP2 : va_P D vwCl (wX h2 d2 cA z c ++ wX h d cA z c) s.heap := hP.sub [8, 9, 10, 11, 12, 13, 14, 15, 0, 1, 2, 3, 4, 5, 6, 7] rfl
  have hD2 : va_D (zA N0) (wX h2 d2 cA z c ++ wX h d cA z c) := hD.sub [8, 9, 10, 11, 12, 13, 14, 15, 0, 1, 2, 3, 4, 5, 6, 7] (by decide) rfl
  have loop2 : ∀ (n : Nat) (k : Nat), k ≤ 12 → 13 ≤ k + n → ∀ (ls : Array Slot), lv_has ls 4 [(3, .int (nI k)), (2, .int 1), (0, .ref h), (1, .ref h2)] → W pr l e (headSpec wsL_areAlike ({ frames := 7, cells := 0, slots := 0, locals := 160 })).room s m ([.ref h, .ref h2] : List Value).toArray below meth cd s.heap [] 0 0 (MQ below (vp_Si (fun rv => rv = 1)) ([.ref h, .ref h2] : List Value).toArray s 0 0 (fun _ => False)) (F0 m 189 ls []) := by
    intro n
    induction n with
    | zero =>
      intro k hk hn
      omega
    | succ n ih =>
      intro k hk hn ls hl
      refine lv_iload_n hx hb dL_areAlike_189 rfl (lv_at hl 0 rfl) ?_
      refine lv_bipush (v := 12) hx hb dL_areAlike_190 (by decide) ?_
      refine lv_icmp_ge (tgt := 224) hx hb dL_areAlike_192 (by decide) (fun c_192 => ?_) (fun c_192 => ?_)
      · refine lv_iload_n hx hb dL_areAlike_224 rfl (lv_at hl 1 rfl) ?_
        exact W.zret (v := 1) hx hb hr rfl (fun t ht hW => ⟨_, rfl, rfl, ht⟩) (fun _ h9 => nomatch h9) dL_areAlike_225
      · have hk4 : k < 12 := Nat.not_le.mp fun q => c_192 ((nI_leI (a := 12) (by decide) (by omega)).mpr q)
        refine lv_iload_n hx hb dL_areAlike_195 rfl (lv_at hl 1 rfl) ?_
        refine lv_if_eq (tgt := 216) hx hb dL_areAlike_196 (by decide) (fun c_196 => absurd c_196 (by decide)) (fun _ => ?_)
        refine lv_aload_n hx hb dL_areAlike_199 rfl (lv_at hl 2 rfl) ?_
        refine lv_iload_n hx hb dL_areAlike_200 rfl (lv_at hl 0 rfl) ?_
        refine vp_callSi ((va_runV (As := [.int (nI k)]) (rest := []) ⟨hx, hb, hml, hown, hts⟩ (c_X0_sung_v l D N0 cA cL (wX h2 d2 cA z c) h d z c (nI k) ⟨nI_pos' (by omega), (nI_leI (b := 11) (by omega) (by decide)).mpr (by omega)⟩) (cwV 1 hts gL_areAlike_X0_sung rfl rfl rfl (by decide +kernel) ⟨Nat.le_of_ble_eq_true rfl, Nat.le_of_ble_eq_true rfl⟩) ⟨zPre.blind, va_recv hK hP (ci := 0) (q0 := 0) rfl rfl, zPre.call hN hP hD hK hE hS⟩ rfl rfl hl.1 rfl (lv_room (Nat.le_of_ble_eq_true rfl)) dL_areAlike_201 ⟨Nat.zero_le _, Nat.zero_le _⟩).run) (fun r_201 h_201 => ?_)
        have h_201 : r_201 = (z.2.2.2.2.2.2 (nI k).toNatClampNeg) := h_201
        subst h_201
        refine lv_aload_n hx hb dL_areAlike_204 rfl (lv_at hl 3 rfl) ?_
        refine lv_iload_n hx hb dL_areAlike_205 rfl (lv_at hl 0 rfl) ?_
        refine vp_callSi ((va_runV (As := [.int (nI k)]) (rest := [.int (z.2.2.2.2.2.2 (nI k).toNatClampNeg)]) ⟨hx, hb, hml, hown, hts⟩ (c_X0_sung_v l D N0 cA cL (wX h d cA z c) h2 d2 z c (nI k) ⟨nI_pos' (by omega), (nI_leI (b := 11) (by omega) (by decide)).mpr (by omega)⟩) (cwV 1 hts gL_areAlike_X0_sung rfl rfl rfl (by decide +kernel) ⟨Nat.le_of_ble_eq_true rfl, Nat.le_of_ble_eq_true rfl⟩) ⟨zPre.blind, va_recv hK hP2 (ci := 0) (q0 := 0) rfl rfl, zPre.call hN hP2 hD2 hK hE hS⟩ rfl rfl hl.1 rfl (lv_room (Nat.le_of_ble_eq_true rfl)) dL_areAlike_206 ⟨Nat.zero_le _, Nat.zero_le _⟩).run) (fun r_206 h_206 => ?_)
        have h_206 : r_206 = (z.2.2.2.2.2.2 (nI k).toNatClampNeg) := h_206
        subst h_206
        refine lv_icmp_ne (tgt := 216) hx hb dL_areAlike_209 (by decide) (fun c_209 => ?_) (fun c_209 => ?_)
        · exact absurd rfl c_209
        · refine lv_iconst (v := 1) hx hb dL_areAlike_212 (by decide) ?_
          refine lv_goto (tgt := 217) hx hb dL_areAlike_213 (by decide) ?_
          refine lv_istore_n (lv' := [(2, .int 1), (3, .int (nI k)), (0, .ref h), (1, .ref h2)]) hx hb dL_areAlike_217 rfl hl (by decide) rfl (fun ls hl => ?_)
          refine lv_iinc (v := (nI (k + 1))) (lv' := [(3, .int (nI (k + 1))), (2, .int 1), (0, .ref h), (1, .ref h2)]) hx hb dL_areAlike_218 hl (k := 1) rfl (z_inc k 1) (by decide) rfl (fun ls hl => ?_)
          refine lv_goto (tgt := 189) hx hb dL_areAlike_221 (by decide) ?_
          exact ih (k + 1) (by omega) (by omega) ls (lv_sub hl [0, 1, 2, 3] rfl)
  have loop : ∀ (n : Nat) (k : Nat), k ≤ 4 → 5 ≤ k + n → ∀ (ls : Array Slot), lv_has ls 4 [(3, .int (nI k)), (2, .int 1), (0, .ref h), (1, .ref h2)] → W pr l e (headSpec wsL_areAlike ({ frames := 7, cells := 0, slots := 0, locals := 160 })).room s m ([.ref h, .ref h2] : List Value).toArray below meth cd s.heap [] 0 0 (MQ below (vp_Si (fun rv => rv = 1)) ([.ref h, .ref h2] : List Value).toArray s 0 0 (fun _ => False)) (F0 m 69 ls []) := by
    intro n
    induction n with
    | zero =>
      intro k hk hn
      omega
    | succ n ih =>
      intro k hk hn ls hl
      refine lv_iload_n hx hb dL_areAlike_69 rfl (lv_at hl 0 rfl) ?_
      refine lv_iconst (v := 4) hx hb dL_areAlike_70 (by decide) ?_
      refine lv_icmp_ge (tgt := 187) hx hb dL_areAlike_71 (by decide) (fun c_71 => ?_) (fun c_71 => ?_)
      · refine lv_iconst (v := 0) hx hb dL_areAlike_187 (by decide) ?_
        refine lv_istore_n (lv' := [(3, .int 0), (2, .int 1), (0, .ref h), (1, .ref h2)]) hx hb dL_areAlike_188 rfl hl (by decide) rfl (fun ls hl => ?_)
        exact loop2 13 0 (by decide) (by decide) ls (lv_sub hl [0, 1, 2, 3] rfl)
      · have hk4 : k < 4 := Nat.not_le.mp fun q => c_71 ((nI_leI (a := 4) (by decide) (by omega)).mpr q)
        have hw : zw (nI k) := ⟨nI_pos' (by omega), (nI_leI (b := 3) (by omega) (by decide)).mpr (by omega)⟩
        refine lv_iload_n hx hb dL_areAlike_74 rfl (lv_at hl 1 rfl) ?_
        refine lv_if_eq (tgt := 179) hx hb dL_areAlike_75 (by decide) (fun c_75 => absurd c_75 (by decide)) (fun _ => ?_)
        refine lv_aload_n hx hb dL_areAlike_78 rfl (lv_at hl 2 rfl) ?_
        refine lv_iload_n hx hb dL_areAlike_79 rfl (lv_at hl 0 rfl) ?_
        refine vp_callSi ((va_runV (As := [.int (nI k)]) (rest := []) ⟨hx, hb, hml, hown, hts⟩ (c_X0_rungOf_v l D N0 cA cL (wX h2 d2 cA z c) h d z c (nI k) hw) (cwV 1 hts gL_areAlike_X0_rungOf rfl rfl rfl (by decide +kernel) ⟨Nat.le_of_ble_eq_true rfl, Nat.le_of_ble_eq_true rfl⟩) ⟨zPre.blind, va_recv hK hP (ci := 0) (q0 := 0) rfl rfl, zPre.call hN hP hD hK hE hS⟩ rfl rfl hl.1 rfl (lv_room (Nat.le_of_ble_eq_true rfl)) dL_areAlike_80 ⟨Nat.zero_le _, Nat.zero_le _⟩).run) (fun r_80 h_80 => ?_)
        have h_80 : r_80 = (z.1 (nI k).toNatClampNeg) := h_80
        subst h_80
        refine lv_aload_n hx hb dL_areAlike_83 rfl (lv_at hl 3 rfl) ?_
        refine lv_iload_n hx hb dL_areAlike_84 rfl (lv_at hl 0 rfl) ?_
        refine vp_callSi ((va_runV (As := [.int (nI k)]) (rest := [.int (z.1 (nI k).toNatClampNeg)]) ⟨hx, hb, hml, hown, hts⟩ (c_X0_rungOf_v l D N0 cA cL (wX h d cA z c) h2 d2 z c (nI k) hw) (cwV 1 hts gL_areAlike_X0_rungOf rfl rfl rfl (by decide +kernel) ⟨Nat.le_of_ble_eq_true rfl, Nat.le_of_ble_eq_true rfl⟩) ⟨zPre.blind, va_recv hK hP2 (ci := 0) (q0 := 0) rfl rfl, zPre.call hN hP2 hD2 hK hE hS⟩ rfl rfl hl.1 rfl (lv_room (Nat.le_of_ble_eq_true rfl)) dL_areAlike_85 ⟨Nat.zero_le _, Nat.zero_le _⟩).run) (fun r_85 h_85 => ?_)
        have h_85 : r_85 = (z.1 (nI k).toNatClampNeg) := h_85
        subst h_85
        refine lv_icmp_ne (tgt := 179) hx hb dL_areAlike_88 (by decide) (fun c_88 => ?_) (fun c_88 => ?_)
        · exact absurd rfl c_88
        · refine lv_aload_n hx hb dL_areAlike_91 rfl (lv_at hl 2 rfl) ?_
          refine lv_iload_n hx hb dL_areAlike_92 rfl (lv_at hl 0 rfl) ?_
          refine vp_callSi ((va_runV (As := [.int (nI k)]) (rest := []) ⟨hx, hb, hml, hown, hts⟩ (c_X0_nudgeOf_v l D N0 cA cL (wX h2 d2 cA z c) h d z c (nI k) hw) (cwV 1 hts gL_areAlike_X0_nudgeOf rfl rfl rfl (by decide +kernel) ⟨Nat.le_of_ble_eq_true rfl, Nat.le_of_ble_eq_true rfl⟩) ⟨zPre.blind, va_recv hK hP (ci := 0) (q0 := 0) rfl rfl, zPre.call hN hP hD hK hE hS⟩ rfl rfl hl.1 rfl (lv_room (Nat.le_of_ble_eq_true rfl)) dL_areAlike_93 ⟨Nat.zero_le _, Nat.zero_le _⟩).run) (fun r_93 h_93 => ?_)
          have h_93 : r_93 = (z.2.1 (nI k).toNatClampNeg) := h_93
          subst h_93
          refine lv_aload_n hx hb dL_areAlike_96 rfl (lv_at hl 3 rfl) ?_
          refine lv_iload_n hx hb dL_areAlike_97 rfl (lv_at hl 0 rfl) ?_
          refine vp_callSi ((va_runV (As := [.int (nI k)]) (rest := [.int (z.2.1 (nI k).toNatClampNeg)]) ⟨hx, hb, hml, hown, hts⟩ (c_X0_nudgeOf_v l D N0 cA cL (wX h d cA z c) h2 d2 z c (nI k) hw) (cwV 1 hts gL_areAlike_X0_nudgeOf rfl rfl rfl (by decide +kernel) ⟨Nat.le_of_ble_eq_true rfl, Nat.le_of_ble_eq_true rfl⟩) ⟨zPre.blind, va_recv hK hP2 (ci := 0) (q0 := 0) rfl rfl, zPre.call hN hP2 hD2 hK hE hS⟩ rfl rfl hl.1 rfl (lv_room (Nat.le_of_ble_eq_true rfl)) dL_areAlike_98 ⟨Nat.zero_le _, Nat.zero_le _⟩).run) (fun r_98 h_98 => ?_)
          have h_98 : r_98 = (z.2.1 (nI k).toNatClampNeg) := h_98
          subst h_98
          refine lv_icmp_ne (tgt := 179) hx hb dL_areAlike_101 (by decide) (fun c_101 => ?_) (fun c_101 => ?_)
          · exact absurd rfl c_101
          · refine lv_aload_n hx hb dL_areAlike_104 rfl (lv_at hl 2 rfl) ?_
            refine lv_iload_n hx hb dL_areAlike_105 rfl (lv_at hl 0 rfl) ?_
            refine vp_callSi ((va_runV (As := [.int (nI k)]) (rest := []) ⟨hx, hb, hml, hown, hts⟩ (c_X0_framesOf_v l D N0 cA cL (wX h2 d2 cA z c) h d z c (nI k) hw) (cwV 1 hts gL_areAlike_X0_framesOf rfl rfl rfl (by decide +kernel) ⟨Nat.le_of_ble_eq_true rfl, Nat.le_of_ble_eq_true rfl⟩) ⟨zPre.blind, va_recv hK hP (ci := 0) (q0 := 0) rfl rfl, zPre.call hN hP hD hK hE hS⟩ rfl rfl hl.1 rfl (lv_room (Nat.le_of_ble_eq_true rfl)) dL_areAlike_106 ⟨Nat.zero_le _, Nat.zero_le _⟩).run) (fun r_106 h_106 => ?_)
            have h_106 : r_106 = (z.2.2.1 (nI k).toNatClampNeg) := h_106
            subst h_106
            refine lv_aload_n hx hb dL_areAlike_109 rfl (lv_at hl 3 rfl) ?_
            refine lv_iload_n hx hb dL_areAlike_110 rfl (lv_at hl 0 rfl) ?_
            refine vp_callSi ((va_runV (As := [.int (nI k)]) (rest := [.int (z.2.2.1 (nI k).toNatClampNeg)]) ⟨hx, hb, hml, hown, hts⟩ (c_X0_framesOf_v l D N0 cA cL (wX h d cA z c) h2 d2 z c (nI k) hw) (cwV 1 hts gL_areAlike_X0_framesOf rfl rfl rfl (by decide +kernel) ⟨Nat.le_of_ble_eq_true rfl, Nat.le_of_ble_eq_true rfl⟩) ⟨zPre.blind, va_recv hK hP2 (ci := 0) (q0 := 0) rfl rfl, zPre.call hN hP2 hD2 hK hE hS⟩ rfl rfl hl.1 rfl (lv_room (Nat.le_of_ble_eq_true rfl)) dL_areAlike_111 ⟨Nat.zero_le _, Nat.zero_le _⟩).run) (fun r_111 h_111 => ?_)
            have h_111 : r_111 = (z.2.2.1 (nI k).toNatClampNeg) := h_111
            subst h_111
            refine lv_icmp_ne (tgt := 179) hx hb dL_areAlike_114 (by decide) (fun c_114 => ?_) (fun c_114 => ?_)
            · exact absurd rfl c_114
            · refine lv_aload_n hx hb dL_areAlike_117 rfl (lv_at hl 2 rfl) ?_
              refine lv_iload_n hx hb dL_areAlike_118 rfl (lv_at hl 0 rfl) ?_
              refine vp_callSi ((va_runV (As := [.int (nI k)]) (rest := []) ⟨hx, hb, hml, hown, hts⟩ (c_X0_changesOf_v l D N0 cA cL (wX h2 d2 cA z c) h d z c (nI k) hw) (cwV 1 hts gL_areAlike_X0_changesOf rfl rfl rfl (by decide +kernel) ⟨Nat.le_of_ble_eq_true rfl, Nat.le_of_ble_eq_true rfl⟩) ⟨zPre.blind, va_recv hK hP (ci := 0) (q0 := 0) rfl rfl, zPre.call hN hP hD hK hE hS⟩ rfl rfl hl.1 rfl (lv_room (Nat.le_of_ble_eq_true rfl)) dL_areAlike_119 ⟨Nat.zero_le _, Nat.zero_le _⟩).run) (fun r_119 h_119 => ?_)
              have h_119 : r_119 = (z.2.2.2.1 (nI k).toNatClampNeg) := h_119
              subst h_119
              refine lv_aload_n hx hb dL_areAlike_122 rfl (lv_at hl 3 rfl) ?_
              refine lv_iload_n hx hb dL_areAlike_123 rfl (lv_at hl 0 rfl) ?_
              refine vp_callSi ((va_runV (As := [.int (nI k)]) (rest := [.int (z.2.2.2.1 (nI k).toNatClampNeg)]) ⟨hx, hb, hml, hown, hts⟩ (c_X0_changesOf_v l D N0 cA cL (wX h d cA z c) h2 d2 z c (nI k) hw) (cwV 1 hts gL_areAlike_X0_changesOf rfl rfl rfl (by decide +kernel) ⟨Nat.le_of_ble_eq_true rfl, Nat.le_of_ble_eq_true rfl⟩) ⟨zPre.blind, va_recv hK hP2 (ci := 0) (q0 := 0) rfl rfl, zPre.call hN hP2 hD2 hK hE hS⟩ rfl rfl hl.1 rfl (lv_room (Nat.le_of_ble_eq_true rfl)) dL_areAlike_124 ⟨Nat.zero_le _, Nat.zero_le _⟩).run) (fun r_124 h_124 => ?_)
              have h_124 : r_124 = (z.2.2.2.1 (nI k).toNatClampNeg) := h_124
              subst h_124
              refine lv_icmp_ne (tgt := 179) hx hb dL_areAlike_127 (by decide) (fun c_127 => ?_) (fun c_127 => ?_)
              · exact absurd rfl c_127
              · refine lv_aload_n hx hb dL_areAlike_130 rfl (lv_at hl 2 rfl) ?_
                refine lv_iload_n hx hb dL_areAlike_131 rfl (lv_at hl 0 rfl) ?_
                refine vp_callSi ((va_runV (As := [.int (nI k)]) (rest := []) ⟨hx, hb, hml, hown, hts⟩ (c_X0_leapsOf_v l D N0 cA cL (wX h2 d2 cA z c) h d z c (nI k) hw) (cwV 1 hts gL_areAlike_X0_leapsOf rfl rfl rfl (by decide +kernel) ⟨Nat.le_of_ble_eq_true rfl, Nat.le_of_ble_eq_true rfl⟩) ⟨zPre.blind, va_recv hK hP (ci := 0) (q0 := 0) rfl rfl, zPre.call hN hP hD hK hE hS⟩ rfl rfl hl.1 rfl (lv_room (Nat.le_of_ble_eq_true rfl)) dL_areAlike_132 ⟨Nat.zero_le _, Nat.zero_le _⟩).run) (fun r_132 h_132 => ?_)
                have h_132 : r_132 = (z.2.2.2.2.1 (nI k).toNatClampNeg) := h_132
                subst h_132
                refine lv_aload_n hx hb dL_areAlike_135 rfl (lv_at hl 3 rfl) ?_
                refine lv_iload_n hx hb dL_areAlike_136 rfl (lv_at hl 0 rfl) ?_
                refine vp_callSi ((va_runV (As := [.int (nI k)]) (rest := [.int (z.2.2.2.2.1 (nI k).toNatClampNeg)]) ⟨hx, hb, hml, hown, hts⟩ (c_X0_leapsOf_v l D N0 cA cL (wX h d cA z c) h2 d2 z c (nI k) hw) (cwV 1 hts gL_areAlike_X0_leapsOf rfl rfl rfl (by decide +kernel) ⟨Nat.le_of_ble_eq_true rfl, Nat.le_of_ble_eq_true rfl⟩) ⟨zPre.blind, va_recv hK hP2 (ci := 0) (q0 := 0) rfl rfl, zPre.call hN hP2 hD2 hK hE hS⟩ rfl rfl hl.1 rfl (lv_room (Nat.le_of_ble_eq_true rfl)) dL_areAlike_137 ⟨Nat.zero_le _, Nat.zero_le _⟩).run) (fun r_137 h_137 => ?_)
                have h_137 : r_137 = (z.2.2.2.2.1 (nI k).toNatClampNeg) := h_137
                subst h_137
                refine lv_icmp_ne (tgt := 179) hx hb dL_areAlike_140 (by decide) (fun c_140 => ?_) (fun c_140 => ?_)
                · exact absurd rfl c_140
                · refine lv_aload_n hx hb dL_areAlike_143 rfl (lv_at hl 2 rfl) ?_
                  refine lv_iload_n hx hb dL_areAlike_144 rfl (lv_at hl 0 rfl) ?_
                  refine vp_callSi ((va_runV (As := [.int (nI k)]) (rest := []) ⟨hx, hb, hml, hown, hts⟩ (c_X0_cleanOf_v l D N0 cA cL (wX h2 d2 cA z c) h d z c (nI k) hw) (cwV 1 hts gL_areAlike_X0_cleanOf rfl rfl rfl (by decide +kernel) ⟨Nat.le_of_ble_eq_true rfl, Nat.le_of_ble_eq_true rfl⟩) ⟨zPre.blind, va_recv hK hP (ci := 0) (q0 := 0) rfl rfl, zPre.call hN hP hD hK hE hS⟩ rfl rfl hl.1 rfl (lv_room (Nat.le_of_ble_eq_true rfl)) dL_areAlike_145 ⟨Nat.zero_le _, Nat.zero_le _⟩).run) (fun r_145 h_145 => ?_)
                  have h_145 : r_145 = (z.2.2.2.2.2.1 (nI k).toNatClampNeg) := h_145
                  subst h_145
                  refine lv_aload_n hx hb dL_areAlike_148 rfl (lv_at hl 3 rfl) ?_
                  refine lv_iload_n hx hb dL_areAlike_149 rfl (lv_at hl 0 rfl) ?_
                  refine vp_callSi ((va_runV (As := [.int (nI k)]) (rest := [.int (z.2.2.2.2.2.1 (nI k).toNatClampNeg)]) ⟨hx, hb, hml, hown, hts⟩ (c_X0_cleanOf_v l D N0 cA cL (wX h d cA z c) h2 d2 z c (nI k) hw) (cwV 1 hts gL_areAlike_X0_cleanOf rfl rfl rfl (by decide +kernel) ⟨Nat.le_of_ble_eq_true rfl, Nat.le_of_ble_eq_true rfl⟩) ⟨zPre.blind, va_recv hK hP2 (ci := 0) (q0 := 0) rfl rfl, zPre.call hN hP2 hD2 hK hE hS⟩ rfl rfl hl.1 rfl (lv_room (Nat.le_of_ble_eq_true rfl)) dL_areAlike_150 ⟨Nat.zero_le _, Nat.zero_le _⟩).run) (fun r_150 h_150 => ?_)
                  have h_150 : r_150 = (z.2.2.2.2.2.1 (nI k).toNatClampNeg) := h_150
                  subst h_150
                  refine lv_icmp_ne (tgt := 179) hx hb dL_areAlike_153 (by decide) (fun c_153 => ?_) (fun c_153 => ?_)
                  · exact absurd rfl c_153
                  · refine lv_aload_n hx hb dL_areAlike_156 rfl (lv_at hl 2 rfl) ?_
                    refine lv_iload_n hx hb dL_areAlike_157 rfl (lv_at hl 0 rfl) ?_
                    refine lv_sipush (v := 5555) hx hb dL_areAlike_158 (by decide) ?_
                    refine vp_callSi ((va_runV (As := [.int (nI k), .int 5555]) (rest := []) ⟨hx, hb, hml, hown, hts⟩ (c_X0_framesToRung_v l D N0 cA cL (wX h2 d2 cA z c) h d z c (nI k) 5555 hc hw ⟨by decide, by decide⟩) (cwV 2 hts gL_areAlike_X0_framesToRung rfl rfl rfl (by decide +kernel) ⟨Nat.le_of_ble_eq_true rfl, Nat.le_of_ble_eq_true rfl⟩) ⟨zPre.blind, va_recv hK hP (ci := 0) (q0 := 0) rfl rfl, zPre.call hN hP hD hK hE hS⟩ rfl rfl hl.1 rfl (lv_room (Nat.le_of_ble_eq_true rfl)) dL_areAlike_161 ⟨Nat.zero_le _, Nat.zero_le _⟩).run) (fun r_161 h_161 => ?_)
                    have h_161 : r_161 = (zFR c (nI k).toNatClampNeg 5555 z) := h_161
                    subst h_161
                    refine lv_aload_n hx hb dL_areAlike_164 rfl (lv_at hl 3 rfl) ?_
                    refine lv_iload_n hx hb dL_areAlike_165 rfl (lv_at hl 0 rfl) ?_
                    refine lv_sipush (v := 5555) hx hb dL_areAlike_166 (by decide) ?_
                    refine vp_callSi ((va_runV (As := [.int (nI k), .int 5555]) (rest := [.int (zFR c (nI k).toNatClampNeg 5555 z)]) ⟨hx, hb, hml, hown, hts⟩ (c_X0_framesToRung_v l D N0 cA cL (wX h d cA z c) h2 d2 z c (nI k) 5555 hc hw ⟨by decide, by decide⟩) (cwV 2 hts gL_areAlike_X0_framesToRung rfl rfl rfl (by decide +kernel) ⟨Nat.le_of_ble_eq_true rfl, Nat.le_of_ble_eq_true rfl⟩) ⟨zPre.blind, va_recv hK hP2 (ci := 0) (q0 := 0) rfl rfl, zPre.call hN hP2 hD2 hK hE hS⟩ rfl rfl hl.1 rfl (lv_room (Nat.le_of_ble_eq_true rfl)) dL_areAlike_169 ⟨Nat.zero_le _, Nat.zero_le _⟩).run) (fun r_169 h_169 => ?_)
                    have h_169 : r_169 = (zFR c (nI k).toNatClampNeg 5555 z) := h_169
                    subst h_169
                    refine lv_icmp_ne (tgt := 179) hx hb dL_areAlike_172 (by decide) (fun c_172 => ?_) (fun c_172 => ?_)
                    · exact absurd rfl c_172
                    · refine lv_iconst (v := 1) hx hb dL_areAlike_175 (by decide) ?_
                      refine lv_goto (tgt := 180) hx hb dL_areAlike_176 (by decide) ?_
                      refine lv_istore_n (lv' := [(2, .int 1), (3, .int (nI k)), (0, .ref h), (1, .ref h2)]) hx hb dL_areAlike_180 rfl hl (by decide) rfl (fun ls hl => ?_)
                      refine lv_iinc (v := (nI (k + 1))) (lv' := [(3, .int (nI (k + 1))), (2, .int 1), (0, .ref h), (1, .ref h2)]) hx hb dL_areAlike_181 hl (k := 1) rfl (z_inc k 1) (by decide) rfl (fun ls hl => ?_)
                      refine lv_goto (tgt := 69) hx hb dL_areAlike_184 (by decide) ?_
                      exact ih (k + 1) (by omega) (by omega) ls (lv_sub hl [0, 1, 2, 3] rfl)
  refine lv_aload_n hx hb dL_areAlike_0 rfl (lv_at hl 0 rfl) ?_
  refine vp_callSi ((va_runV (As := []) (rest := []) ⟨hx, hb, hml, hown, hts⟩ (c_X0_rungs l D N0 cA cL (wX h2 d2 cA z c) h d z c hc) (cwV 0 hts gL_areAlike_X0_rungs rfl rfl rfl (by decide +kernel) ⟨Nat.le_of_ble_eq_true rfl, Nat.le_of_ble_eq_true rfl⟩) ⟨zPre.blind, va_recv hK hP (ci := 0) (q0 := 0) rfl rfl, zPre.call hN hP hD hK hE hS⟩ rfl rfl hl.1 rfl (lv_room (Nat.le_of_ble_eq_true rfl)) dL_areAlike_1 ⟨Nat.zero_le _, Nat.zero_le _⟩).run) (fun r_1 h_1 => ?_)
  have h_1 : r_1 = (zRc c) := h_1
  subst h_1
  refine lv_aload_n hx hb dL_areAlike_4 rfl (lv_at hl 1 rfl) ?_
  refine vp_callSi ((va_runV (As := []) (rest := [.int (zRc c)]) ⟨hx, hb, hml, hown, hts⟩ (c_X0_rungs l D N0 cA cL (wX h d cA z c) h2 d2 z c hc) (cwV 0 hts gL_areAlike_X0_rungs rfl rfl rfl (by decide +kernel) ⟨Nat.le_of_ble_eq_true rfl, Nat.le_of_ble_eq_true rfl⟩) ⟨zPre.blind, va_recv hK hP2 (ci := 0) (q0 := 0) rfl rfl, zPre.call hN hP2 hD2 hK hE hS⟩ rfl rfl hl.1 rfl (lv_room (Nat.le_of_ble_eq_true rfl)) dL_areAlike_5 ⟨Nat.zero_le _, Nat.zero_le _⟩).run) (fun r_5 h_5 => ?_)
  have h_5 : r_5 = (zRc c) := h_5
  subst h_5
  refine lv_icmp_ne (tgt := 65) hx hb dL_areAlike_8 (by decide) (fun c_8 => ?_) (fun c_8 => ?_)
  · exact absurd rfl c_8
  · refine lv_aload_n hx hb dL_areAlike_11 rfl (lv_at hl 0 rfl) ?_
    refine lv_iconst (v := 0) hx hb dL_areAlike_12 (by decide) ?_
    refine vp_callSi ((va_runV (As := [.int 0]) (rest := []) ⟨hx, hb, hml, hown, hts⟩ (c_X0_rung_v l D N0 cA cL (wX h2 d2 cA z c) h d z c 0 hc (zRg_p hc (m := 0) (by decide))) (cwV 1 hts gL_areAlike_X0_rung rfl rfl rfl (by decide +kernel) ⟨Nat.le_of_ble_eq_true rfl, Nat.le_of_ble_eq_true rfl⟩) ⟨zPre.blind, va_recv hK hP (ci := 0) (q0 := 0) rfl rfl, zPre.call hN hP hD hK hE hS⟩ rfl rfl hl.1 rfl (lv_room (Nat.le_of_ble_eq_true rfl)) dL_areAlike_13 ⟨Nat.zero_le _, Nat.zero_le _⟩).run) (fun r_13 h_13 => ?_)
    have h_13 : r_13 = (zRg c 0) := h_13
    subst h_13
    refine lv_aload_n hx hb dL_areAlike_16 rfl (lv_at hl 1 rfl) ?_
    refine lv_iconst (v := 0) hx hb dL_areAlike_17 (by decide) ?_
    refine vp_callSi ((va_runV (As := [.int 0]) (rest := [.int (zRg c 0)]) ⟨hx, hb, hml, hown, hts⟩ (c_X0_rung_v l D N0 cA cL (wX h d cA z c) h2 d2 z c 0 hc (zRg_p hc (m := 0) (by decide))) (cwV 1 hts gL_areAlike_X0_rung rfl rfl rfl (by decide +kernel) ⟨Nat.le_of_ble_eq_true rfl, Nat.le_of_ble_eq_true rfl⟩) ⟨zPre.blind, va_recv hK hP2 (ci := 0) (q0 := 0) rfl rfl, zPre.call hN hP2 hD2 hK hE hS⟩ rfl rfl hl.1 rfl (lv_room (Nat.le_of_ble_eq_true rfl)) dL_areAlike_18 ⟨Nat.zero_le _, Nat.zero_le _⟩).run) (fun r_18 h_18 => ?_)
    have h_18 : r_18 = (zRg c 0) := h_18
    subst h_18
    refine lv_icmp_ne (tgt := 65) hx hb dL_areAlike_21 (by decide) (fun c_21 => ?_) (fun c_21 => ?_)
    · exact absurd rfl c_21
    · refine lv_aload_n hx hb dL_areAlike_24 rfl (lv_at hl 0 rfl) ?_
      refine lv_iconst (v := 1) hx hb dL_areAlike_25 (by decide) ?_
      refine vp_callSi ((va_runV (As := [.int 1]) (rest := []) ⟨hx, hb, hml, hown, hts⟩ (c_X0_rung_v l D N0 cA cL (wX h2 d2 cA z c) h d z c 1 hc (zRg_p hc (m := 1) (by decide))) (cwV 1 hts gL_areAlike_X0_rung rfl rfl rfl (by decide +kernel) ⟨Nat.le_of_ble_eq_true rfl, Nat.le_of_ble_eq_true rfl⟩) ⟨zPre.blind, va_recv hK hP (ci := 0) (q0 := 0) rfl rfl, zPre.call hN hP hD hK hE hS⟩ rfl rfl hl.1 rfl (lv_room (Nat.le_of_ble_eq_true rfl)) dL_areAlike_26 ⟨Nat.zero_le _, Nat.zero_le _⟩).run) (fun r_26 h_26 => ?_)
      have h_26 : r_26 = (zRg c 1) := h_26
      subst h_26
      refine lv_aload_n hx hb dL_areAlike_29 rfl (lv_at hl 1 rfl) ?_
      refine lv_iconst (v := 1) hx hb dL_areAlike_30 (by decide) ?_
      refine vp_callSi ((va_runV (As := [.int 1]) (rest := [.int (zRg c 1)]) ⟨hx, hb, hml, hown, hts⟩ (c_X0_rung_v l D N0 cA cL (wX h d cA z c) h2 d2 z c 1 hc (zRg_p hc (m := 1) (by decide))) (cwV 1 hts gL_areAlike_X0_rung rfl rfl rfl (by decide +kernel) ⟨Nat.le_of_ble_eq_true rfl, Nat.le_of_ble_eq_true rfl⟩) ⟨zPre.blind, va_recv hK hP2 (ci := 0) (q0 := 0) rfl rfl, zPre.call hN hP2 hD2 hK hE hS⟩ rfl rfl hl.1 rfl (lv_room (Nat.le_of_ble_eq_true rfl)) dL_areAlike_31 ⟨Nat.zero_le _, Nat.zero_le _⟩).run) (fun r_31 h_31 => ?_)
      have h_31 : r_31 = (zRg c 1) := h_31
      subst h_31
      refine lv_icmp_ne (tgt := 65) hx hb dL_areAlike_34 (by decide) (fun c_34 => ?_) (fun c_34 => ?_)
      · exact absurd rfl c_34
      · refine lv_aload_n hx hb dL_areAlike_37 rfl (lv_at hl 0 rfl) ?_
        refine lv_iconst (v := 3) hx hb dL_areAlike_38 (by decide) ?_
        refine vp_callSi ((va_runV (As := [.int 3]) (rest := []) ⟨hx, hb, hml, hown, hts⟩ (c_X0_rung_v l D N0 cA cL (wX h2 d2 cA z c) h d z c 3 hc (zRg_p hc (m := 3) (by decide))) (cwV 1 hts gL_areAlike_X0_rung rfl rfl rfl (by decide +kernel) ⟨Nat.le_of_ble_eq_true rfl, Nat.le_of_ble_eq_true rfl⟩) ⟨zPre.blind, va_recv hK hP (ci := 0) (q0 := 0) rfl rfl, zPre.call hN hP hD hK hE hS⟩ rfl rfl hl.1 rfl (lv_room (Nat.le_of_ble_eq_true rfl)) dL_areAlike_39 ⟨Nat.zero_le _, Nat.zero_le _⟩).run) (fun r_39 h_39 => ?_)
        have h_39 : r_39 = (zRg c 3) := h_39
        subst h_39
        refine lv_aload_n hx hb dL_areAlike_42 rfl (lv_at hl 1 rfl) ?_
        refine lv_iconst (v := 3) hx hb dL_areAlike_43 (by decide) ?_
        refine vp_callSi ((va_runV (As := [.int 3]) (rest := [.int (zRg c 3)]) ⟨hx, hb, hml, hown, hts⟩ (c_X0_rung_v l D N0 cA cL (wX h d cA z c) h2 d2 z c 3 hc (zRg_p hc (m := 3) (by decide))) (cwV 1 hts gL_areAlike_X0_rung rfl rfl rfl (by decide +kernel) ⟨Nat.le_of_ble_eq_true rfl, Nat.le_of_ble_eq_true rfl⟩) ⟨zPre.blind, va_recv hK hP2 (ci := 0) (q0 := 0) rfl rfl, zPre.call hN hP2 hD2 hK hE hS⟩ rfl rfl hl.1 rfl (lv_room (Nat.le_of_ble_eq_true rfl)) dL_areAlike_44 ⟨Nat.zero_le _, Nat.zero_le _⟩).run) (fun r_44 h_44 => ?_)
        have h_44 : r_44 = (zRg c 3) := h_44
        subst h_44
        refine lv_icmp_ne (tgt := 65) hx hb dL_areAlike_47 (by decide) (fun c_47 => ?_) (fun c_47 => ?_)
        · exact absurd rfl c_47
        · refine lv_aload_n hx hb dL_areAlike_50 rfl (lv_at hl 0 rfl) ?_
          refine vp_callSi ((va_runV (As := []) (rest := []) ⟨hx, hb, hml, hown, hts⟩ (c_X0_inOctaves l D N0 cA cL (wX h2 d2 cA z c) h d z c) (cwV 0 hts gL_areAlike_X0_inOctaves rfl rfl rfl (by decide +kernel) ⟨Nat.le_of_ble_eq_true rfl, Nat.le_of_ble_eq_true rfl⟩) ⟨zPre.blind, va_recv hK hP (ci := 0) (q0 := 0) rfl rfl, zPre.call hN hP hD hK hE hS⟩ rfl rfl hl.1 rfl (lv_room (Nat.le_of_ble_eq_true rfl)) dL_areAlike_51 ⟨Nat.zero_le _, Nat.zero_le _⟩).run) (fun r_51 h_51 => ?_)
          have h_51 : r_51 = (zIO z.1) := h_51
          subst h_51
          refine lv_aload_n hx hb dL_areAlike_54 rfl (lv_at hl 1 rfl) ?_
          refine vp_callSi ((va_runV (As := []) (rest := [.int (zIO z.1)]) ⟨hx, hb, hml, hown, hts⟩ (c_X0_inOctaves l D N0 cA cL (wX h d cA z c) h2 d2 z c) (cwV 0 hts gL_areAlike_X0_inOctaves rfl rfl rfl (by decide +kernel) ⟨Nat.le_of_ble_eq_true rfl, Nat.le_of_ble_eq_true rfl⟩) ⟨zPre.blind, va_recv hK hP2 (ci := 0) (q0 := 0) rfl rfl, zPre.call hN hP2 hD2 hK hE hS⟩ rfl rfl hl.1 rfl (lv_room (Nat.le_of_ble_eq_true rfl)) dL_areAlike_55 ⟨Nat.zero_le _, Nat.zero_le _⟩).run) (fun r_55 h_55 => ?_)
          have h_55 : r_55 = (zIO z.1) := h_55
          subst h_55
          refine lv_icmp_ne (tgt := 65) hx hb dL_areAlike_58 (by decide) (fun c_58 => ?_) (fun c_58 => ?_)
          · exact absurd rfl c_58
          · refine lv_iconst (v := 1) hx hb dL_areAlike_61 (by decide) ?_
            refine lv_goto (tgt := 66) hx hb dL_areAlike_62 (by decide) ?_
            refine lv_istore_n (lv' := [(2, .int 1), (0, .ref h), (1, .ref h2)]) hx hb dL_areAlike_66 rfl hl (by decide) rfl (fun ls hl => ?_)
            refine lv_iconst (v := 0) hx hb dL_areAlike_67 (by decide) ?_
            refine lv_istore_n (lv' := [(3, .int 0), (2, .int 1), (0, .ref h), (1, .ref h2)]) hx hb dL_areAlike_68 rfl hl (by decide) rfl (fun ls hl => ?_)
            exact loop 5 0 (by decide) (by decide) ls (lv_sub hl [0, 1, 2, 3] rfl)
