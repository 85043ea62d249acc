theorem zKE {md : Nat} (hm : md < 8) (su : Nat → Nat) (n : Nat) (hn : zC7 md = n) : nI (zSu (fun x => zNW md x su 12) 12) = nI (zSu su 12) * nI n := by
  rw [zTotN hm su 12 (Nat.le_refl _), hn, pk_mul, Nat.mul_comm]
set_option maxHeartbeats 4000000 in
set_option maxRecDepth 100000 in
theorem c_L_areKeysSo (l : Launch) (D : va_G) (N0 : Nat) (cA cL : ClassId) (E : va_W) (h : Nat) (d : Nat → Nat) (z : S7) (c : C5) (md : Nat) (hm : md < 8) {B : Nat} (hI : zInv B z c) (hB : B ≤ 9000) : Met l yL_areKeysSo wsL_areKeysSo ({ frames := 4, cells := 0, slots := 0, locals := 96 }) (va_Pc [.ref h, .int (nI md)] (zPre D N0 cA cL (wX h d cA z c ++ E))) (vp_Si (fun rv => rv = 1)) 0 0 (fun _ => False) := by
  refine Met.ofW (cc := cL_areKeysSo) (maxL := 8) (ret := (some .boolean)) (by decide) rfl ?_
  intro pr e s m ag below meth cd s₁ B hml hv
  obtain ⟨rfl, hN, hP, hD, hK, hE⟩ := hv
  have hx := B.exec
  have hb := B.bytes
  have hr := B.returns
  have hts := atoms_spec (ws := wsL_areKeysSo) B.pre
  have hown : s.vm.findClass RL = some m.cls := findClass_of_methodNamed B.named
  have hlocks := B.notSynchronized
  have hS : va_S (zA N0) s.heap s.heap [] := va_S.rf
  have hl := lv_entry ([.ref h, .int (nI md)]) (n := 8) (Nat.le_of_ble_eq_true rfl)
  rw [lg_entry_eq]
  generalize (lg_sl ([.ref h, .int (nI md)]) ++ List.replicate (8 - (lg_sl ([.ref h, .int (nI md)])).length) Slot.unset).toArray = ls at hl ⊢
  have hl : lv_has ls 8 [(0, .ref h), (1, .int (nI md))] := hl
  obtain ⟨fr, ch, le, cl, su, h4, h5, h6, h7⟩ := id hI.2.2.2
  have hF : fr 0 + fr 1 + fr 2 + fr 3 = zSu su 12 := by
    rw [← h6]
    show _ = 0 + fr 0 + fr 1 + fr 2 + fr 3
    omega
  obtain ⟨bk, hbk⟩ : ∃ x, x = zBk md z.2.2.2.2.2.2 := ⟨_, rfl⟩
  have hB9 := zBk_c (md := md) h5 (by omega) 11 (Nat.le_refl _)
  rw [show zBkn md z.2.2.2.2.2.2 11 = bk from hbk.symm] at hB9
  obtain ⟨hB1, hB2, hB3⟩ := hB9
  have hm3 := zNW_le md bk su
  have loop : ∀ (n : Nat) (k : Nat), k ≤ 12 → 13 ≤ k + n → ∀ (ls : Array Slot), lv_has ls 8 [(6, .int (nI k)), (4, .int (nI (zSu (fun x => zNW md x su 12) k))), (5, .int (nI (zSu su 12))), (3, .int (nI (zNW md bk su 12))), (2, .int (nI bk)), (1, .int (nI md)), (0, .ref h)] → W pr l e (headSpec wsL_areKeysSo ({ frames := 4, cells := 0, slots := 0, locals := 96 })).room s m ([.ref h, .int (nI md)] : List Value).toArray below meth cd s.heap [] 0 0 (MQ below (vp_Si (fun rv => rv = 1)) ([.ref h, .int (nI md)] : List Value).toArray s 0 0 (fun _ => False)) (F0 m 44 ls []) := by
    intro n
    induction n with
    | zero =>
      intro k hk hn
      omega
    | succ n ih =>
      intro k hk hn ls hl
      refine lv_iload hx hb dL_areKeysSo_44 (lv_at hl 0 rfl) ?_
      refine lv_bipush (v := 12) hx hb dL_areKeysSo_46 (by decide) ?_
      refine lv_icmp_ge (tgt := 113) hx hb dL_areKeysSo_48 (by decide) (fun c_48 => ?_) (fun c_48 => ?_)
      · have hk4 : k = 12 := by have := (nI_leI (a := 12) (by decide) (by omega)).mp c_48; omega
        subst hk4
        refine lv_iload hx hb dL_areKeysSo_113 (lv_at hl 1 rfl) ?_
        refine lv_iload hx hb dL_areKeysSo_115 (lv_at hl 2 rfl) ?_
        refine lv_iload_n hx hb dL_areKeysSo_117 rfl (lv_at hl 5 rfl) ?_
        refine lv_bipush (v := 7) hx hb dL_areKeysSo_118 (by decide) ?_
        refine lv_icmp_ne (tgt := 128) hx hb dL_areKeysSo_120 (by decide) (fun c_120 => ?_) (fun c_120 => ?_)
        · refine lv_bipush (v := 7) hx hb dL_areKeysSo_128 (by decide) ?_
          refine lv_imul hx hb dL_areKeysSo_130 ?_
          refine lv_icmp_ne (tgt := 138) hx hb dL_areKeysSo_131 (by decide) (fun c_131 => ?_) (fun c_131 => ?_)
          · exact absurd (zKE hm su 7 (if_neg (fun q => c_120 (congrArg nI q)))) c_131
          · refine lv_iconst (v := 1) hx hb dL_areKeysSo_134 (by decide) ?_
            refine lv_goto (tgt := 139) hx hb dL_areKeysSo_135 (by decide) ?_
            exact W.zret (v := 1) hx hb hr rfl (fun t ht hW => ⟨_, rfl, rfl, ht⟩) (fun _ h9 => nomatch h9) dL_areKeysSo_139
        · refine lv_bipush (v := 12) hx hb dL_areKeysSo_123 (by decide) ?_
          refine lv_goto (tgt := 130) hx hb dL_areKeysSo_125 (by decide) ?_
          refine lv_imul hx hb dL_areKeysSo_130 ?_
          refine lv_icmp_ne (tgt := 138) hx hb dL_areKeysSo_131 (by decide) (fun c_131 => ?_) (fun c_131 => ?_)
          · exact absurd (zKE hm su 12 (if_pos ((nI_eq (b := 7) (by omega) (by decide)).mp c_120))) c_131
          · refine lv_iconst (v := 1) hx hb dL_areKeysSo_134 (by decide) ?_
            refine lv_goto (tgt := 139) hx hb dL_areKeysSo_135 (by decide) ?_
            exact W.zret (v := 1) hx hb hr rfl (fun t ht hW => ⟨_, rfl, rfl, ht⟩) (fun _ h9 => nomatch h9) dL_areKeysSo_139
      · have hk4 : k < 12 := Nat.not_le.mp fun q => c_48 ((nI_leI (a := 12) (by decide) (by omega)).mpr q)
        have hm1 := hB2 k (by omega)
        have hm2 := zNW_le md k su
        refine lv_aload_n hx hb dL_areKeysSo_51 rfl (lv_at hl 6 rfl) ?_
        refine lv_iload hx hb dL_areKeysSo_52 (lv_at hl 0 rfl) ?_
        refine lv_iload_n hx hb dL_areKeysSo_54 rfl (lv_at hl 5 rfl) ?_
        refine vp_callSi ((va_runV (As := [.int (nI k), .int (nI md)]) (rest := []) ⟨hx, hb, hml, hown, hts⟩ (c_X0_within_v l D N0 cA cL E h d z c k md hk4 hm) (cwV 2 hts gL_areKeysSo_X0_within rfl rfl rfl (by decide +kernel) ⟨Nat.le_of_ble_eq_true rfl, Nat.le_of_ble_eq_true rfl⟩) ⟨zPre.blind, va_recv hK hP (ci := 0) (q0 := 0) rfl rfl, zPre.call hN hP hD hK hE hS⟩ rfl rfl hl.1 rfl (lv_room (Nat.le_of_ble_eq_true rfl)) dL_areKeysSo_55 ⟨Nat.zero_le _, Nat.zero_le _⟩).run) (fun r_55 h_55 => ?_)
        have h_55 : r_55 = (zW md k z.2.2.2.2.2.2) := h_55
        subst h_55
        rw [show ((zW md k z.2.2.2.2.2.2) : Int32) = (nI (zNW md k su 12)) from (zW_N h5)]
        refine lv_istore (lv' := [(7, .int (nI (zNW md k su 12))), (6, .int (nI k)), (4, .int (nI (zSu (fun x => zNW md x su 12) k))), (5, .int (nI (zSu su 12))), (3, .int (nI (zNW md bk su 12))), (2, .int (nI bk)), (1, .int (nI md)), (0, .ref h)]) hx hb dL_areKeysSo_58 hl (by decide) rfl (fun ls hl => ?_)
        refine lv_iload hx hb dL_areKeysSo_60 (lv_at hl 2 rfl) ?_
        refine lv_iload hx hb dL_areKeysSo_62 (lv_at hl 0 rfl) ?_
        refine lv_iadd hx hb dL_areKeysSo_64 ?_
        rw [show (((nI (zSu (fun x => zNW md x su 12) k)) + (nI (zNW md k su 12))) : Int32) = (nI (zSu (fun x => zNW md x su 12) (k + 1))) from (nI_add _ _)]
        refine lv_istore (lv' := [(4, .int (nI (zSu (fun x => zNW md x su 12) (k + 1)))), (7, .int (nI (zNW md k su 12))), (6, .int (nI k)), (5, .int (nI (zSu su 12))), (3, .int (nI (zNW md bk su 12))), (2, .int (nI bk)), (1, .int (nI md)), (0, .ref h)]) hx hb dL_areKeysSo_65 hl (by decide) rfl (fun ls hl => ?_)
        refine lv_iload hx hb dL_areKeysSo_67 (lv_at hl 1 rfl) ?_
        refine lv_iload_n hx hb dL_areKeysSo_69 rfl (lv_at hl 4 rfl) ?_
        refine lv_icmp_gt (tgt := 105) hx hb dL_areKeysSo_70 (by decide) (fun c_70 => ?_) (fun c_70 => ?_)
        · exact absurd c_70 (nI_nlt hm1 (by omega))
        · refine lv_iload hx hb dL_areKeysSo_73 (lv_at hl 1 rfl) ?_
          refine lv_iload_n hx hb dL_areKeysSo_75 rfl (lv_at hl 4 rfl) ?_
          refine lv_icmp_ne (tgt := 85) hx hb dL_areKeysSo_76 (by decide) (fun c_76 => ?_) (fun c_76 => ?_)
          · refine lv_iload hx hb dL_areKeysSo_85 (lv_at hl 1 rfl) ?_
            refine lv_iload hx hb dL_areKeysSo_87 (lv_at hl 3 rfl) ?_
            refine lv_icmp_gt (tgt := 105) hx hb dL_areKeysSo_89 (by decide) (fun c_89 => ?_) (fun c_89 => ?_)
            · exact absurd c_89 (nI_nlt hm2 (by omega))
            · refine lv_iload_n hx hb dL_areKeysSo_92 rfl (lv_at hl 6 rfl) ?_
              refine lv_bipush (v := 7) hx hb dL_areKeysSo_93 (by decide) ?_
              refine lv_icmp_ne (tgt := 107) hx hb dL_areKeysSo_95 (by decide) (fun c_95 => ?_) (fun c_95 => ?_)
              · refine lv_iinc (v := (nI (k + 1))) (lv' := [(6, .int (nI (k + 1))), (4, .int (nI (zSu (fun x => zNW md x su 12) (k + 1)))), (7, .int (nI (zNW md k su 12))), (5, .int (nI (zSu su 12))), (3, .int (nI (zNW md bk su 12))), (2, .int (nI bk)), (1, .int (nI md)), (0, .ref h)]) hx hb dL_areKeysSo_107 hl (k := 2) rfl (z_inc k 1) (by decide) rfl (fun ls hl => ?_)
                refine lv_goto (tgt := 44) hx hb dL_areKeysSo_110 (by decide) ?_
                exact ih (k + 1) (by omega) (by omega) ls (lv_sub hl [0, 1, 3, 4, 5, 6, 7] rfl)
              · refine lv_iload hx hb dL_areKeysSo_98 (lv_at hl 1 rfl) ?_
                refine lv_iload hx hb dL_areKeysSo_100 (lv_at hl 3 rfl) ?_
                refine lv_icmp_eq (tgt := 107) hx hb dL_areKeysSo_102 (by decide) (fun c_102 => ?_) (fun c_102 => ?_)
                · refine lv_iinc (v := (nI (k + 1))) (lv' := [(6, .int (nI (k + 1))), (4, .int (nI (zSu (fun x => zNW md x su 12) (k + 1)))), (7, .int (nI (zNW md k su 12))), (5, .int (nI (zSu su 12))), (3, .int (nI (zNW md bk su 12))), (2, .int (nI bk)), (1, .int (nI md)), (0, .ref h)]) hx hb dL_areKeysSo_107 hl (k := 2) rfl (z_inc k 1) (by decide) rfl (fun ls hl => ?_)
                  refine lv_goto (tgt := 44) hx hb dL_areKeysSo_110 (by decide) ?_
                  exact ih (k + 1) (by omega) (by omega) ls (lv_sub hl [0, 1, 3, 4, 5, 6, 7] rfl)
                · exact absurd (by rw [show md = 7 from (nI_eq (b := 7) (by omega) (by decide)).mp c_95]; exact congrArg nI (zNW_7 k su)) c_102
          · refine lv_iload hx hb dL_areKeysSo_79 (lv_at hl 2 rfl) ?_
            refine lv_iload_n hx hb dL_areKeysSo_81 rfl (lv_at hl 5 rfl) ?_
            refine lv_icmp_lt (tgt := 105) hx hb dL_areKeysSo_82 (by decide) (fun c_82 => ?_) (fun c_82 => ?_)
            · exact absurd ((nI_ltI (by omega) (by omega)).mp c_82) (fun q => by have h1 := hB3 k q; have h2 := (nI_eq (by omega) (by omega)).mp c_76; omega)
            · refine lv_iload hx hb dL_areKeysSo_85 (lv_at hl 1 rfl) ?_
              refine lv_iload hx hb dL_areKeysSo_87 (lv_at hl 3 rfl) ?_
              refine lv_icmp_gt (tgt := 105) hx hb dL_areKeysSo_89 (by decide) (fun c_89 => ?_) (fun c_89 => ?_)
              · exact absurd c_89 (nI_nlt hm2 (by omega))
              · refine lv_iload_n hx hb dL_areKeysSo_92 rfl (lv_at hl 6 rfl) ?_
                refine lv_bipush (v := 7) hx hb dL_areKeysSo_93 (by decide) ?_
                refine lv_icmp_ne (tgt := 107) hx hb dL_areKeysSo_95 (by decide) (fun c_95 => ?_) (fun c_95 => ?_)
                · refine lv_iinc (v := (nI (k + 1))) (lv' := [(6, .int (nI (k + 1))), (4, .int (nI (zSu (fun x => zNW md x su 12) (k + 1)))), (7, .int (nI (zNW md k su 12))), (5, .int (nI (zSu su 12))), (3, .int (nI (zNW md bk su 12))), (2, .int (nI bk)), (1, .int (nI md)), (0, .ref h)]) hx hb dL_areKeysSo_107 hl (k := 2) rfl (z_inc k 1) (by decide) rfl (fun ls hl => ?_)
                  refine lv_goto (tgt := 44) hx hb dL_areKeysSo_110 (by decide) ?_
                  exact ih (k + 1) (by omega) (by omega) ls (lv_sub hl [0, 1, 3, 4, 5, 6, 7] rfl)
                · refine lv_iload hx hb dL_areKeysSo_98 (lv_at hl 1 rfl) ?_
                  refine lv_iload hx hb dL_areKeysSo_100 (lv_at hl 3 rfl) ?_
                  refine lv_icmp_eq (tgt := 107) hx hb dL_areKeysSo_102 (by decide) (fun c_102 => ?_) (fun c_102 => ?_)
                  · refine lv_iinc (v := (nI (k + 1))) (lv' := [(6, .int (nI (k + 1))), (4, .int (nI (zSu (fun x => zNW md x su 12) (k + 1)))), (7, .int (nI (zNW md k su 12))), (5, .int (nI (zSu su 12))), (3, .int (nI (zNW md bk su 12))), (2, .int (nI bk)), (1, .int (nI md)), (0, .ref h)]) hx hb dL_areKeysSo_107 hl (k := 2) rfl (z_inc k 1) (by decide) rfl (fun ls hl => ?_)
                    refine lv_goto (tgt := 44) hx hb dL_areKeysSo_110 (by decide) ?_
                    exact ih (k + 1) (by omega) (by omega) ls (lv_sub hl [0, 1, 3, 4, 5, 6, 7] rfl)
                  · exact absurd (by rw [show md = 7 from (nI_eq (b := 7) (by omega) (by decide)).mp c_95]; exact congrArg nI (zNW_7 k su)) c_102
  refine lv_aload_n hx hb dL_areKeysSo_0 rfl (lv_at hl 0 rfl) ?_
  refine lv_iload_n hx hb dL_areKeysSo_1 rfl (lv_at hl 1 rfl) ?_
  refine vp_callSi ((va_runV (As := [.int (nI md)]) (rest := []) ⟨hx, hb, hml, hown, hts⟩ (c_X0_bestKey_v l D N0 cA cL E h d z c md hm) (cwV 1 hts gL_areKeysSo_X0_bestKey rfl rfl rfl (by decide +kernel) ⟨Nat.le_of_ble_eq_true rfl, Nat.le_of_ble_eq_true rfl⟩) ⟨zPre.blind, va_recv hK hP (ci := 0) (q0 := 0) rfl rfl, zPre.call hN hP hD hK hE hS⟩ rfl rfl hl.1 rfl (lv_room (Nat.le_of_ble_eq_true rfl)) dL_areKeysSo_2 ⟨Nat.zero_le _, Nat.zero_le _⟩).run) (fun r_2 h_2 => ?_)
  have h_2 : r_2 = (nI (zBk md z.2.2.2.2.2.2)) := h_2
  subst h_2
  rw [show ((nI (zBk md z.2.2.2.2.2.2)) : Int32) = (nI bk) from (congrArg nI hbk.symm)]
  refine lv_istore_n (lv' := [(2, .int (nI bk)), (0, .ref h), (1, .int (nI md))]) hx hb dL_areKeysSo_5 rfl hl (by decide) rfl (fun ls hl => ?_)
  refine lv_aload_n hx hb dL_areKeysSo_6 rfl (lv_at hl 1 rfl) ?_
  refine lv_iload_n hx hb dL_areKeysSo_7 rfl (lv_at hl 0 rfl) ?_
  refine lv_iload_n hx hb dL_areKeysSo_8 rfl (lv_at hl 2 rfl) ?_
  refine vp_callSi ((va_runV (As := [.int (nI bk), .int (nI md)]) (rest := []) ⟨hx, hb, hml, hown, hts⟩ (c_X0_within_v l D N0 cA cL E h d z c bk md (by omega) hm) (cwV 2 hts gL_areKeysSo_X0_within rfl rfl rfl (by decide +kernel) ⟨Nat.le_of_ble_eq_true rfl, Nat.le_of_ble_eq_true rfl⟩) ⟨zPre.blind, va_recv hK hP (ci := 0) (q0 := 0) rfl rfl, zPre.call hN hP hD hK hE hS⟩ rfl rfl hl.1 rfl (lv_room (Nat.le_of_ble_eq_true rfl)) dL_areKeysSo_9 ⟨Nat.zero_le _, Nat.zero_le _⟩).run) (fun r_9 h_9 => ?_)
  have h_9 : r_9 = (zW md bk z.2.2.2.2.2.2) := h_9
  subst h_9
  rw [show ((zW md bk z.2.2.2.2.2.2) : Int32) = (nI (zNW md bk su 12)) from (zW_N h5)]
  refine lv_istore_n (lv' := [(3, .int (nI (zNW md bk su 12))), (2, .int (nI bk)), (0, .ref h), (1, .int (nI md))]) hx hb dL_areKeysSo_12 rfl hl (by decide) rfl (fun ls hl => ?_)
  refine lv_iconst (v := 0) hx hb dL_areKeysSo_13 (by decide) ?_
  refine lv_istore (lv' := [(4, .int 0), (3, .int (nI (zNW md bk su 12))), (2, .int (nI bk)), (0, .ref h), (1, .int (nI md))]) hx hb dL_areKeysSo_14 hl (by decide) rfl (fun ls hl => ?_)
  refine lv_aload_n hx hb dL_areKeysSo_16 rfl (lv_at hl 3 rfl) ?_
  refine lv_iconst (v := 0) hx hb dL_areKeysSo_17 (by decide) ?_
  refine vp_callSi ((va_runV (As := [.int (0 : Int32)]) (rest := []) ⟨hx, hb, hml, hown, hts⟩ (c_X0_framesOf_v l D N0 cA cL E h d z c (0 : Int32) ⟨by decide, by decide⟩) (cwV 1 hts gL_areKeysSo_X0_framesOf rfl rfl rfl (by decide +kernel) ⟨Nat.le_of_ble_eq_true rfl, Nat.le_of_ble_eq_true rfl⟩) ⟨zPre.blind, va_recv hK hP (ci := 0) (q0 := 0) rfl rfl, zPre.call hN hP hD hK hE hS⟩ rfl rfl hl.1 rfl (lv_room (Nat.le_of_ble_eq_true rfl)) dL_areKeysSo_18 ⟨Nat.zero_le _, Nat.zero_le _⟩).run) (fun r_18 h_18 => ?_)
  have h_18 : r_18 = (z.2.2.1 (0 : Int32).toNatClampNeg) := h_18
  subst h_18
  rw [show ((z.2.2.1 (0 : Int32).toNatClampNeg) : Int32) = (nI (fr 0)) from (by rw [show (0 : Int32).toNatClampNeg = 0 by decide]; exact (h4 0 (by decide)).1)]
  refine lv_aload_n hx hb dL_areKeysSo_21 rfl (lv_at hl 3 rfl) ?_
  refine lv_iconst (v := 1) hx hb dL_areKeysSo_22 (by decide) ?_
  refine vp_callSi ((va_runV (As := [.int (1 : Int32)]) (rest := [.int (nI (fr 0))]) ⟨hx, hb, hml, hown, hts⟩ (c_X0_framesOf_v l D N0 cA cL E h d z c (1 : Int32) ⟨by decide, by decide⟩) (cwV 1 hts gL_areKeysSo_X0_framesOf rfl rfl rfl (by decide +kernel) ⟨Nat.le_of_ble_eq_true rfl, Nat.le_of_ble_eq_true rfl⟩) ⟨zPre.blind, va_recv hK hP (ci := 0) (q0 := 0) rfl rfl, zPre.call hN hP hD hK hE hS⟩ rfl rfl hl.1 rfl (lv_room (Nat.le_of_ble_eq_true rfl)) dL_areKeysSo_23 ⟨Nat.zero_le _, Nat.zero_le _⟩).run) (fun r_23 h_23 => ?_)
  have h_23 : r_23 = (z.2.2.1 (1 : Int32).toNatClampNeg) := h_23
  subst h_23
  rw [show ((z.2.2.1 (1 : Int32).toNatClampNeg) : Int32) = (nI (fr 1)) from (by rw [show (1 : Int32).toNatClampNeg = 1 by decide]; exact (h4 1 (by decide)).1)]
  refine lv_iadd hx hb dL_areKeysSo_26 ?_
  rw [show (((nI (fr 0)) + (nI (fr 1))) : Int32) = (nI (fr 0 + fr 1)) from (nI_add _ _)]
  refine lv_aload_n hx hb dL_areKeysSo_27 rfl (lv_at hl 3 rfl) ?_
  refine lv_iconst (v := 2) hx hb dL_areKeysSo_28 (by decide) ?_
  refine vp_callSi ((va_runV (As := [.int (2 : Int32)]) (rest := [.int (nI (fr 0 + fr 1))]) ⟨hx, hb, hml, hown, hts⟩ (c_X0_framesOf_v l D N0 cA cL E h d z c (2 : Int32) ⟨by decide, by decide⟩) (cwV 1 hts gL_areKeysSo_X0_framesOf rfl rfl rfl (by decide +kernel) ⟨Nat.le_of_ble_eq_true rfl, Nat.le_of_ble_eq_true rfl⟩) ⟨zPre.blind, va_recv hK hP (ci := 0) (q0 := 0) rfl rfl, zPre.call hN hP hD hK hE hS⟩ rfl rfl hl.1 rfl (lv_room (Nat.le_of_ble_eq_true rfl)) dL_areKeysSo_29 ⟨Nat.zero_le _, Nat.zero_le _⟩).run) (fun r_29 h_29 => ?_)
  have h_29 : r_29 = (z.2.2.1 (2 : Int32).toNatClampNeg) := h_29
  subst h_29
  rw [show ((z.2.2.1 (2 : Int32).toNatClampNeg) : Int32) = (nI (fr 2)) from (by rw [show (2 : Int32).toNatClampNeg = 2 by decide]; exact (h4 2 (by decide)).1)]
  refine lv_iadd hx hb dL_areKeysSo_32 ?_
  rw [show (((nI (fr 0 + fr 1)) + (nI (fr 2))) : Int32) = (nI (fr 0 + fr 1 + fr 2)) from (nI_add _ _)]
  refine lv_aload_n hx hb dL_areKeysSo_33 rfl (lv_at hl 3 rfl) ?_
  refine lv_iconst (v := 3) hx hb dL_areKeysSo_34 (by decide) ?_
  refine vp_callSi ((va_runV (As := [.int (3 : Int32)]) (rest := [.int (nI (fr 0 + fr 1 + fr 2))]) ⟨hx, hb, hml, hown, hts⟩ (c_X0_framesOf_v l D N0 cA cL E h d z c (3 : Int32) ⟨by decide, by decide⟩) (cwV 1 hts gL_areKeysSo_X0_framesOf rfl rfl rfl (by decide +kernel) ⟨Nat.le_of_ble_eq_true rfl, Nat.le_of_ble_eq_true rfl⟩) ⟨zPre.blind, va_recv hK hP (ci := 0) (q0 := 0) rfl rfl, zPre.call hN hP hD hK hE hS⟩ rfl rfl hl.1 rfl (lv_room (Nat.le_of_ble_eq_true rfl)) dL_areKeysSo_35 ⟨Nat.zero_le _, Nat.zero_le _⟩).run) (fun r_35 h_35 => ?_)
  have h_35 : r_35 = (z.2.2.1 (3 : Int32).toNatClampNeg) := h_35
  subst h_35
  rw [show ((z.2.2.1 (3 : Int32).toNatClampNeg) : Int32) = (nI (fr 3)) from (by rw [show (3 : Int32).toNatClampNeg = 3 by decide]; exact (h4 3 (by decide)).1)]
  refine lv_iadd hx hb dL_areKeysSo_38 ?_
  rw [show (((nI (fr 0 + fr 1 + fr 2)) + (nI (fr 3))) : Int32) = (nI (zSu su 12)) from (by rw [nI_add, hF])]
  refine lv_istore (lv' := [(5, .int (nI (zSu su 12))), (4, .int 0), (3, .int (nI (zNW md bk su 12))), (2, .int (nI bk)), (0, .ref h), (1, .int (nI md))]) hx hb dL_areKeysSo_39 hl (by decide) rfl (fun ls hl => ?_)
  refine lv_iconst (v := 0) hx hb dL_areKeysSo_41 (by decide) ?_
  refine lv_istore (lv' := [(6, .int 0), (5, .int (nI (zSu su 12))), (4, .int 0), (3, .int (nI (zNW md bk su 12))), (2, .int (nI bk)), (0, .ref h), (1, .int (nI md))]) hx hb dL_areKeysSo_42 hl (by decide) rfl (fun ls hl => ?_)
  exact loop 13 0 (by decide) (by decide) ls (lv_sub hl [0, 2, 1, 3, 4, 6, 5] rfl)
