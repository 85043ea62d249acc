abbrev zIn (x n : Int32) : Prop := 0 ≤ x ∧ x ≤ n
abbrev zFr (x : Int32) : Prop := 2 ≤ x ∧ x ≤ 50
abbrev zLe (x y : Int32) : Prop := x ≤ y
set_option maxHeartbeats 4000000 in
set_option maxRecDepth 100000 in
theorem c_L_act_scale_e (l : Launch) (D : va_G) (N0 : Nat) (cA cL : ClassId) (E : va_W) (h : Nat) (d : Nat → Nat) (z : S7) (c : C5) (v : Int32) (k : Nat) (hk : zLo v 12 = nI k) (hk12 : k < 12) (ht : zTg k = 108) (ho : ¬ zLo (v >>> (22 &&& 31)) 8 = 0) (k2 m2 : Nat) (e1 : (zLo (v >>> (6 &&& 31)) 12) = nI k2) (e2 : (zLo (v >>> (9 &&& 31)) 8) = nI m2) (h1 : k2 < 12) (h2 : m2 < 8) (hc : okC c) : Met l yL_act wsL_act ({ frames := 10, cells := 0, slots := 0, locals := 300 }) (va_Pc [.ref h, .int v] (zPre D N0 cA cL (wX h d cA z c ++ E))) (va_Qi (fun (rv : Int32) (_ : Unit) => rv = (zL (k2, m2, c.2.2.1, c.2.2.2.1, c.2.2.2.2) z.1).2) (fun _ t => zPost D N0 (wX h d cA ((zL (k2, m2, c.2.2.1, c.2.2.2.1, c.2.2.2.2) z.1).1, z.2.1, z.2.2.1, z.2.2.2.1, z.2.2.2.2.1, z.2.2.2.2.2.1, z.2.2.2.2.2.2) (k2, m2, c.2.2.1, c.2.2.2.1, c.2.2.2.2) ++ E) t) (zA N0)) 0 0 (zA N0) := by
  refine Met.ofW (cc := cL_act) (maxL := 5) (ret := (some .int)) (by decide) rfl ?_
  intro pr e s m ag below meth cd s₁ B hml hv
  obtain ⟨rfl, hN, hP, hD, hK, hE⟩ := hv
  have hx := B.exec
  have hb := B.bytes
  have hr := B.returns
  have hts := atoms_spec (ws := wsL_act) B.pre
  have hown : s.vm.findClass RL = some m.cls := findClass_of_methodNamed B.named
  have hlocks := B.notSynchronized
  have hS : va_S (zA N0) s.heap s.heap [] := va_S.rf
  have hl := lv_entry ([.ref h, .int v]) (n := 5) (Nat.le_of_ble_eq_true rfl)
  rw [lg_entry_eq]
  generalize (lg_sl ([.ref h, .int v]) ++ List.replicate (5 - (lg_sl ([.ref h, .int v])).length) Slot.unset).toArray = ls at hl ⊢
  have hl : lv_has ls 5 [(0, .ref h), (1, .int v)] := hl
  refine lv_iload_n hx hb dL_act_0 rfl (lv_at hl 1 rfl) ?_
  refine lv_bipush (v := 22) hx hb dL_act_1 (by decide) ?_
  refine lv_ishr hx hb dL_act_3 ?_
  refine lv_bipush (v := 8) hx hb dL_act_4 (by decide) ?_
  refine vp_callSi ((va_runS (As := [.int (v >>> (22 &&& 31)), .int 8]) (rest := []) ⟨hx, hb, hml, hown, hts⟩ (c_L_low l (v >>> (22 &&& 31)) 8 (by decide)) (va_cwS 2 hts gL_act_L_low rfl rfl rfl (by decide +kernel) ⟨Nat.le_of_ble_eq_true rfl, Nat.le_of_ble_eq_true rfl⟩) ⟨zT.blind, zT.call⟩ rfl rfl hl.1 rfl (lv_room (Nat.le_of_ble_eq_true rfl)) dL_act_6 ⟨Nat.zero_le _, Nat.zero_le _⟩).run) (fun r_6 h_6 => ?_)
  have h_6 : r_6 = (zLo (v >>> (22 &&& 31)) 8) := h_6
  subst h_6
  refine lv_if_ne (tgt := 16) hx hb dL_act_9 (by decide) (fun c_9 => ?_) (fun c_9 => ?_)
  · refine lv_iconst (v := 0) hx hb dL_act_16 (by decide) ?_
    refine lv_istore_n (lv' := [(2, .int 0), (0, .ref h), (1, .int v)]) hx hb dL_act_17 rfl hl (by decide) rfl (fun ls hl => ?_)
    refine lv_iload_n hx hb dL_act_18 rfl (lv_at hl 2 rfl) ?_
    refine lv_iconst (v := 4) hx hb dL_act_19 (by decide) ?_
    refine lv_ishr hx hb dL_act_20 ?_
    refine lv_iload_n hx hb dL_act_21 rfl (lv_at hl 0 rfl) ?_
    refine lv_if_eq (tgt := 30) hx hb dL_act_22 (by decide) (fun _ => ?_) (fun c_22 => absurd c_22 (by decide))
    refine lv_iconst (v := 4) hx hb dL_act_30 (by decide) ?_
    refine vp_callSi ((va_runS (As := [.int (v >>> (4 &&& 31)), .int 4]) (rest := []) ⟨hx, hb, hml, hown, hts⟩ (c_L_low l (v >>> (4 &&& 31)) 4 (by decide)) (va_cwS 2 hts gL_act_L_low rfl rfl rfl (by decide +kernel) ⟨Nat.le_of_ble_eq_true rfl, Nat.le_of_ble_eq_true rfl⟩) ⟨zT.blind, zT.call⟩ rfl rfl hl.1 rfl (lv_room (Nat.le_of_ble_eq_true rfl)) dL_act_31 ⟨Nat.zero_le _, Nat.zero_le _⟩).run) (fun r_31 h_31 => ?_)
    have h_31 : r_31 = (zLo (v >>> (4 &&& 31)) 4) := h_31
    subst h_31
    refine lv_istore_n (lv' := [(3, .int (zLo (v >>> (4 &&& 31)) 4)), (2, .int 0), (0, .ref h), (1, .int v)]) hx hb dL_act_34 rfl hl (by decide) rfl (fun ls hl => ?_)
    refine lv_iload_n hx hb dL_act_35 rfl (lv_at hl 3 rfl) ?_
    refine lv_bipush (v := 6) hx hb dL_act_36 (by decide) ?_
    refine lv_ishr hx hb dL_act_38 ?_
    refine lv_iload_n hx hb dL_act_39 rfl (lv_at hl 1 rfl) ?_
    refine lv_if_eq (tgt := 49) hx hb dL_act_40 (by decide) (fun _ => ?_) (fun c_40 => absurd c_40 (by decide))
    refine lv_sipush (v := 12001) hx hb dL_act_49 (by decide) ?_
    refine vp_callSi ((va_runS (As := [.int (v >>> (6 &&& 31)), .int 12001]) (rest := []) ⟨hx, hb, hml, hown, hts⟩ (c_L_low l (v >>> (6 &&& 31)) 12001 (by decide)) (va_cwS 2 hts gL_act_L_low rfl rfl rfl (by decide +kernel) ⟨Nat.le_of_ble_eq_true rfl, Nat.le_of_ble_eq_true rfl⟩) ⟨zT.blind, zT.call⟩ rfl rfl hl.1 rfl (lv_room (Nat.le_of_ble_eq_true rfl)) dL_act_52 ⟨Nat.zero_le _, Nat.zero_le _⟩).run) (fun r_52 h_52 => ?_)
    have h_52 : r_52 = (zLo (v >>> (6 &&& 31)) 12001) := h_52
    subst h_52
    refine lv_istore (lv' := [(4, .int (zLo (v >>> (6 &&& 31)) 12001)), (3, .int (zLo (v >>> (4 &&& 31)) 4)), (2, .int 0), (0, .ref h), (1, .int v)]) hx hb dL_act_55 hl (by decide) rfl (fun ls hl => ?_)
    refine lv_iload_n hx hb dL_act_57 rfl (lv_at hl 4 rfl) ?_
    refine lv_bipush (v := 12) hx hb dL_act_58 (by decide) ?_
    refine vp_callSi ((va_runS (As := [.int v, .int 12]) (rest := []) ⟨hx, hb, hml, hown, hts⟩ (c_L_low l v 12 (by decide)) (va_cwS 2 hts gL_act_L_low rfl rfl rfl (by decide +kernel) ⟨Nat.le_of_ble_eq_true rfl, Nat.le_of_ble_eq_true rfl⟩) ⟨zT.blind, zT.call⟩ rfl rfl hl.1 rfl (lv_room (Nat.le_of_ble_eq_true rfl)) dL_act_60 ⟨Nat.zero_le _, Nat.zero_le _⟩).run) (fun r_60 h_60 => ?_)
    have h_60 : r_60 = (zLo v 12) := h_60
    subst h_60
    rw [show ((zLo v 12) : Int32) = (nI k) from hk]
    refine act_sw hx hb hk12 ?_
    rw [ht]
    refine lv_aload_n hx hb dL_act_108 rfl (lv_at hl 3 rfl) ?_
    refine lv_iload_n hx hb dL_act_109 rfl (lv_at hl 4 rfl) ?_
    refine lv_bipush (v := 6) hx hb dL_act_110 (by decide) ?_
    refine lv_ishr hx hb dL_act_112 ?_
    refine lv_iload_n hx hb dL_act_113 rfl (lv_at hl 2 rfl) ?_
    refine lv_if_eq (tgt := 122) hx hb dL_act_114 (by decide) (fun _ => ?_) (fun c_114 => absurd c_114 (by decide))
    refine lv_bipush (v := 12) hx hb dL_act_122 (by decide) ?_
    refine vp_callSi ((va_runS (As := [.int (v >>> (6 &&& 31)), .int 12]) (rest := [.ref h]) ⟨hx, hb, hml, hown, hts⟩ (c_L_low l (v >>> (6 &&& 31)) 12 (by decide)) (va_cwS 2 hts gL_act_L_low rfl rfl rfl (by decide +kernel) ⟨Nat.le_of_ble_eq_true rfl, Nat.le_of_ble_eq_true rfl⟩) ⟨zT.blind, zT.call⟩ rfl rfl hl.1 rfl (lv_room (Nat.le_of_ble_eq_true rfl)) dL_act_124 ⟨Nat.zero_le _, Nat.zero_le _⟩).run) (fun r_124 h_124 => ?_)
    have h_124 : r_124 = (zLo (v >>> (6 &&& 31)) 12) := h_124
    subst h_124
    rw [show ((zLo (v >>> (6 &&& 31)) 12) : Int32) = (nI k2) from e1]
    refine lv_iload_n hx hb dL_act_127 rfl (lv_at hl 4 rfl) ?_
    refine lv_bipush (v := 9) hx hb dL_act_128 (by decide) ?_
    refine lv_ishr hx hb dL_act_130 ?_
    refine lv_iload_n hx hb dL_act_131 rfl (lv_at hl 2 rfl) ?_
    refine lv_if_eq (tgt := 140) hx hb dL_act_132 (by decide) (fun _ => ?_) (fun c_132 => absurd c_132 (by decide))
    refine lv_bipush (v := 8) hx hb dL_act_140 (by decide) ?_
    refine vp_callSi ((va_runS (As := [.int (v >>> (9 &&& 31)), .int 8]) (rest := [.int (nI k2), .ref h]) ⟨hx, hb, hml, hown, hts⟩ (c_L_low l (v >>> (9 &&& 31)) 8 (by decide)) (va_cwS 2 hts gL_act_L_low rfl rfl rfl (by decide +kernel) ⟨Nat.le_of_ble_eq_true rfl, Nat.le_of_ble_eq_true rfl⟩) ⟨zT.blind, zT.call⟩ rfl rfl hl.1 rfl (lv_room (Nat.le_of_ble_eq_true rfl)) dL_act_142 ⟨Nat.zero_le _, Nat.zero_le _⟩).run) (fun r_142 h_142 => ?_)
    have h_142 : r_142 = (zLo (v >>> (9 &&& 31)) 8) := h_142
    subst h_142
    rw [show ((zLo (v >>> (9 &&& 31)) 8) : Int32) = (nI m2) from e2]
    refine va_calli (vx_runSW (As := [.ref h, .int (nI k2), .int (nI m2)]) (rest := []) ⟨hx, hb, hml, hown, hts⟩ (c_L_scale_v l D N0 cA cL E h d z c k2 m2 hc h1 h2) (vx_cwSW 3 hts gL_act_L_scale rfl rfl rfl (by decide +kernel) ⟨Nat.le_of_ble_eq_true rfl, Nat.le_of_ble_eq_true rfl⟩) ⟨zPre.blind, zPre.call hN hP hD hK hE hS⟩ rfl rfl hl.1 rfl (lv_room (Nat.le_of_ble_eq_true rfl)) dL_act_145 ⟨Nat.zero_le _, Nat.zero_le _⟩) hS (fun _ _ h9 => h9) (fun _ h9 => h9) (fun r_145 _ t H locs ht hvm h_145 hB hz1 hk1 hS => ?_)
    have h_145 : r_145 = ((zL (k2, m2, c.2.2.1, c.2.2.2.1, c.2.2.2.2) z.1).2) := h_145
    subst h_145
    obtain ⟨hP, hD⟩ := hB
    rw [ht] at hP
    have hP : va_P D vwCl (wX h d cA ((zL (k2, m2, c.2.2.1, c.2.2.2.1, c.2.2.2.2) z.1).1, z.2.1, z.2.2.1, z.2.2.2.1, z.2.2.2.2.1, z.2.2.2.2.2.1, z.2.2.2.2.2.2) (k2, m2, c.2.2.1, c.2.2.2.1, c.2.2.2.2) ++ E) H := hP
    have hD : va_D (zA N0) (wX h d cA ((zL (k2, m2, c.2.2.1, c.2.2.2.1, c.2.2.2.2) z.1).1, z.2.1, z.2.2.1, z.2.2.2.1, z.2.2.2.2.1, z.2.2.2.2.2.1, z.2.2.2.2.2.2) (k2, m2, c.2.2.1, c.2.2.2.1, c.2.2.2.2) ++ E) := hD
    exact W.iret (v := ((zL (k2, m2, c.2.2.1, c.2.2.2.1, c.2.2.2.2) z.1).2)) hx hb hr (fun t ht hW => ⟨⟨_, (), rfl, rfl, ⟨by rw [ht]; exact hP, hD⟩⟩, hS.F ht⟩) hS.2.2 dL_act_148
  · exact absurd c_9 ho

set_option maxHeartbeats 4000000 in
set_option maxRecDepth 100000 in
theorem c_L_act_scale_o (l : Launch) (D : va_G) (N0 : Nat) (cA cL : ClassId) (E : va_W) (h : Nat) (d : Nat → Nat) (z : S7) (c : C5) (v : Int32) (k : Nat) (hk : zLo v 12 = nI k) (hk12 : k < 12) (ht : zTg k = 108) (ho : zLo (v >>> (22 &&& 31)) 8 = 0) (k2 m2 : Nat) (e1 : (zLo (v >>> (6 &&& 31)) 14) = nI k2) (e2 : (zLo (v >>> (9 &&& 31)) 10) = nI m2) (h1 : k2 < 12) (h2 : m2 < 8) (hc : okC c) : Met l yL_act wsL_act ({ frames := 10, cells := 0, slots := 0, locals := 300 }) (va_Pc [.ref h, .int v] (zPre D N0 cA cL (wX h d cA z c ++ E))) (va_Qi (fun (rv : Int32) (_ : Unit) => rv = (zL (k2, m2, c.2.2.1, c.2.2.2.1, c.2.2.2.2) z.1).2) (fun _ t => zPost D N0 (wX h d cA ((zL (k2, m2, c.2.2.1, c.2.2.2.1, c.2.2.2.2) z.1).1, z.2.1, z.2.2.1, z.2.2.2.1, z.2.2.2.2.1, z.2.2.2.2.2.1, z.2.2.2.2.2.2) (k2, m2, c.2.2.1, c.2.2.2.1, c.2.2.2.2) ++ E) t) (zA N0)) 0 0 (zA N0) := by
  refine Met.ofW (cc := cL_act) (maxL := 5) (ret := (some .int)) (by decide) rfl ?_
  intro pr e s m ag below meth cd s₁ B hml hv
  obtain ⟨rfl, hN, hP, hD, hK, hE⟩ := hv
  have hx := B.exec
  have hb := B.bytes
  have hr := B.returns
  have hts := atoms_spec (ws := wsL_act) B.pre
  have hown : s.vm.findClass RL = some m.cls := findClass_of_methodNamed B.named
  have hlocks := B.notSynchronized
  have hS : va_S (zA N0) s.heap s.heap [] := va_S.rf
  have hl := lv_entry ([.ref h, .int v]) (n := 5) (Nat.le_of_ble_eq_true rfl)
  rw [lg_entry_eq]
  generalize (lg_sl ([.ref h, .int v]) ++ List.replicate (5 - (lg_sl ([.ref h, .int v])).length) Slot.unset).toArray = ls at hl ⊢
  have hl : lv_has ls 5 [(0, .ref h), (1, .int v)] := hl
  refine lv_iload_n hx hb dL_act_0 rfl (lv_at hl 1 rfl) ?_
  refine lv_bipush (v := 22) hx hb dL_act_1 (by decide) ?_
  refine lv_ishr hx hb dL_act_3 ?_
  refine lv_bipush (v := 8) hx hb dL_act_4 (by decide) ?_
  refine vp_callSi ((va_runS (As := [.int (v >>> (22 &&& 31)), .int 8]) (rest := []) ⟨hx, hb, hml, hown, hts⟩ (c_L_low l (v >>> (22 &&& 31)) 8 (by decide)) (va_cwS 2 hts gL_act_L_low rfl rfl rfl (by decide +kernel) ⟨Nat.le_of_ble_eq_true rfl, Nat.le_of_ble_eq_true rfl⟩) ⟨zT.blind, zT.call⟩ rfl rfl hl.1 rfl (lv_room (Nat.le_of_ble_eq_true rfl)) dL_act_6 ⟨Nat.zero_le _, Nat.zero_le _⟩).run) (fun r_6 h_6 => ?_)
  have h_6 : r_6 = (zLo (v >>> (22 &&& 31)) 8) := h_6
  subst h_6
  refine lv_if_ne (tgt := 16) hx hb dL_act_9 (by decide) (fun c_9 => ?_) (fun c_9 => ?_)
  · exact absurd ho c_9
  · refine lv_iconst (v := 1) hx hb dL_act_12 (by decide) ?_
    refine lv_goto (tgt := 17) hx hb dL_act_13 (by decide) ?_
    refine lv_istore_n (lv' := [(2, .int 1), (0, .ref h), (1, .int v)]) hx hb dL_act_17 rfl hl (by decide) rfl (fun ls hl => ?_)
    refine lv_iload_n hx hb dL_act_18 rfl (lv_at hl 2 rfl) ?_
    refine lv_iconst (v := 4) hx hb dL_act_19 (by decide) ?_
    refine lv_ishr hx hb dL_act_20 ?_
    refine lv_iload_n hx hb dL_act_21 rfl (lv_at hl 0 rfl) ?_
    refine lv_if_eq (tgt := 30) hx hb dL_act_22 (by decide) (fun c_22 => absurd c_22 (by decide)) (fun _ => ?_)
    refine lv_bipush (v := 6) hx hb dL_act_25 (by decide) ?_
    refine lv_goto (tgt := 31) hx hb dL_act_27 (by decide) ?_
    refine vp_callSi ((va_runS (As := [.int (v >>> (4 &&& 31)), .int 6]) (rest := []) ⟨hx, hb, hml, hown, hts⟩ (c_L_low l (v >>> (4 &&& 31)) 6 (by decide)) (va_cwS 2 hts gL_act_L_low rfl rfl rfl (by decide +kernel) ⟨Nat.le_of_ble_eq_true rfl, Nat.le_of_ble_eq_true rfl⟩) ⟨zT.blind, zT.call⟩ rfl rfl hl.1 rfl (lv_room (Nat.le_of_ble_eq_true rfl)) dL_act_31 ⟨Nat.zero_le _, Nat.zero_le _⟩).run) (fun r_31 h_31 => ?_)
    have h_31 : r_31 = (zLo (v >>> (4 &&& 31)) 6) := h_31
    subst h_31
    refine lv_istore_n (lv' := [(3, .int (zLo (v >>> (4 &&& 31)) 6)), (2, .int 1), (0, .ref h), (1, .int v)]) hx hb dL_act_34 rfl hl (by decide) rfl (fun ls hl => ?_)
    refine lv_iload_n hx hb dL_act_35 rfl (lv_at hl 3 rfl) ?_
    refine lv_bipush (v := 6) hx hb dL_act_36 (by decide) ?_
    refine lv_ishr hx hb dL_act_38 ?_
    refine lv_iload_n hx hb dL_act_39 rfl (lv_at hl 1 rfl) ?_
    refine lv_if_eq (tgt := 49) hx hb dL_act_40 (by decide) (fun c_40 => absurd c_40 (by decide)) (fun _ => ?_)
    refine lv_sipush (v := 13000) hx hb dL_act_43 (by decide) ?_
    refine lv_goto (tgt := 52) hx hb dL_act_46 (by decide) ?_
    refine vp_callSi ((va_runS (As := [.int (v >>> (6 &&& 31)), .int 13000]) (rest := []) ⟨hx, hb, hml, hown, hts⟩ (c_L_low l (v >>> (6 &&& 31)) 13000 (by decide)) (va_cwS 2 hts gL_act_L_low rfl rfl rfl (by decide +kernel) ⟨Nat.le_of_ble_eq_true rfl, Nat.le_of_ble_eq_true rfl⟩) ⟨zT.blind, zT.call⟩ rfl rfl hl.1 rfl (lv_room (Nat.le_of_ble_eq_true rfl)) dL_act_52 ⟨Nat.zero_le _, Nat.zero_le _⟩).run) (fun r_52 h_52 => ?_)
    have h_52 : r_52 = (zLo (v >>> (6 &&& 31)) 13000) := h_52
    subst h_52
    refine lv_istore (lv' := [(4, .int (zLo (v >>> (6 &&& 31)) 13000)), (3, .int (zLo (v >>> (4 &&& 31)) 6)), (2, .int 1), (0, .ref h), (1, .int v)]) hx hb dL_act_55 hl (by decide) rfl (fun ls hl => ?_)
    refine lv_iload_n hx hb dL_act_57 rfl (lv_at hl 4 rfl) ?_
    refine lv_bipush (v := 12) hx hb dL_act_58 (by decide) ?_
    refine vp_callSi ((va_runS (As := [.int v, .int 12]) (rest := []) ⟨hx, hb, hml, hown, hts⟩ (c_L_low l v 12 (by decide)) (va_cwS 2 hts gL_act_L_low rfl rfl rfl (by decide +kernel) ⟨Nat.le_of_ble_eq_true rfl, Nat.le_of_ble_eq_true rfl⟩) ⟨zT.blind, zT.call⟩ rfl rfl hl.1 rfl (lv_room (Nat.le_of_ble_eq_true rfl)) dL_act_60 ⟨Nat.zero_le _, Nat.zero_le _⟩).run) (fun r_60 h_60 => ?_)
    have h_60 : r_60 = (zLo v 12) := h_60
    subst h_60
    rw [show ((zLo v 12) : Int32) = (nI k) from hk]
    refine act_sw hx hb hk12 ?_
    rw [ht]
    refine lv_aload_n hx hb dL_act_108 rfl (lv_at hl 3 rfl) ?_
    refine lv_iload_n hx hb dL_act_109 rfl (lv_at hl 4 rfl) ?_
    refine lv_bipush (v := 6) hx hb dL_act_110 (by decide) ?_
    refine lv_ishr hx hb dL_act_112 ?_
    refine lv_iload_n hx hb dL_act_113 rfl (lv_at hl 2 rfl) ?_
    refine lv_if_eq (tgt := 122) hx hb dL_act_114 (by decide) (fun c_114 => absurd c_114 (by decide)) (fun _ => ?_)
    refine lv_bipush (v := 14) hx hb dL_act_117 (by decide) ?_
    refine lv_goto (tgt := 124) hx hb dL_act_119 (by decide) ?_
    refine vp_callSi ((va_runS (As := [.int (v >>> (6 &&& 31)), .int 14]) (rest := [.ref h]) ⟨hx, hb, hml, hown, hts⟩ (c_L_low l (v >>> (6 &&& 31)) 14 (by decide)) (va_cwS 2 hts gL_act_L_low rfl rfl rfl (by decide +kernel) ⟨Nat.le_of_ble_eq_true rfl, Nat.le_of_ble_eq_true rfl⟩) ⟨zT.blind, zT.call⟩ rfl rfl hl.1 rfl (lv_room (Nat.le_of_ble_eq_true rfl)) dL_act_124 ⟨Nat.zero_le _, Nat.zero_le _⟩).run) (fun r_124 h_124 => ?_)
    have h_124 : r_124 = (zLo (v >>> (6 &&& 31)) 14) := h_124
    subst h_124
    rw [show ((zLo (v >>> (6 &&& 31)) 14) : Int32) = (nI k2) from e1]
    refine lv_iload_n hx hb dL_act_127 rfl (lv_at hl 4 rfl) ?_
    refine lv_bipush (v := 9) hx hb dL_act_128 (by decide) ?_
    refine lv_ishr hx hb dL_act_130 ?_
    refine lv_iload_n hx hb dL_act_131 rfl (lv_at hl 2 rfl) ?_
    refine lv_if_eq (tgt := 140) hx hb dL_act_132 (by decide) (fun c_132 => absurd c_132 (by decide)) (fun _ => ?_)
    refine lv_bipush (v := 10) hx hb dL_act_135 (by decide) ?_
    refine lv_goto (tgt := 142) hx hb dL_act_137 (by decide) ?_
    refine vp_callSi ((va_runS (As := [.int (v >>> (9 &&& 31)), .int 10]) (rest := [.int (nI k2), .ref h]) ⟨hx, hb, hml, hown, hts⟩ (c_L_low l (v >>> (9 &&& 31)) 10 (by decide)) (va_cwS 2 hts gL_act_L_low rfl rfl rfl (by decide +kernel) ⟨Nat.le_of_ble_eq_true rfl, Nat.le_of_ble_eq_true rfl⟩) ⟨zT.blind, zT.call⟩ rfl rfl hl.1 rfl (lv_room (Nat.le_of_ble_eq_true rfl)) dL_act_142 ⟨Nat.zero_le _, Nat.zero_le _⟩).run) (fun r_142 h_142 => ?_)
    have h_142 : r_142 = (zLo (v >>> (9 &&& 31)) 10) := h_142
    subst h_142
    rw [show ((zLo (v >>> (9 &&& 31)) 10) : Int32) = (nI m2) from e2]
    refine va_calli (vx_runSW (As := [.ref h, .int (nI k2), .int (nI m2)]) (rest := []) ⟨hx, hb, hml, hown, hts⟩ (c_L_scale_v l D N0 cA cL E h d z c k2 m2 hc h1 h2) (vx_cwSW 3 hts gL_act_L_scale rfl rfl rfl (by decide +kernel) ⟨Nat.le_of_ble_eq_true rfl, Nat.le_of_ble_eq_true rfl⟩) ⟨zPre.blind, zPre.call hN hP hD hK hE hS⟩ rfl rfl hl.1 rfl (lv_room (Nat.le_of_ble_eq_true rfl)) dL_act_145 ⟨Nat.zero_le _, Nat.zero_le _⟩) hS (fun _ _ h9 => h9) (fun _ h9 => h9) (fun r_145 _ t H locs ht hvm h_145 hB hz1 hk1 hS => ?_)
    have h_145 : r_145 = ((zL (k2, m2, c.2.2.1, c.2.2.2.1, c.2.2.2.2) z.1).2) := h_145
    subst h_145
    obtain ⟨hP, hD⟩ := hB
    rw [ht] at hP
    have hP : va_P D vwCl (wX h d cA ((zL (k2, m2, c.2.2.1, c.2.2.2.1, c.2.2.2.2) z.1).1, z.2.1, z.2.2.1, z.2.2.2.1, z.2.2.2.2.1, z.2.2.2.2.2.1, z.2.2.2.2.2.2) (k2, m2, c.2.2.1, c.2.2.2.1, c.2.2.2.2) ++ E) H := hP
    have hD : va_D (zA N0) (wX h d cA ((zL (k2, m2, c.2.2.1, c.2.2.2.1, c.2.2.2.2) z.1).1, z.2.1, z.2.2.1, z.2.2.2.1, z.2.2.2.2.1, z.2.2.2.2.2.1, z.2.2.2.2.2.2) (k2, m2, c.2.2.1, c.2.2.2.1, c.2.2.2.2) ++ E) := hD
    exact W.iret (v := ((zL (k2, m2, c.2.2.1, c.2.2.2.1, c.2.2.2.2) z.1).2)) hx hb hr (fun t ht hW => ⟨⟨_, (), rfl, rfl, ⟨by rw [ht]; exact hP, hD⟩⟩, hS.F ht⟩) hS.2.2 dL_act_148

set_option maxHeartbeats 4000000 in
set_option maxRecDepth 100000 in
theorem c_L_act_scale_x (l : Launch) (hst : l.stackTraces = false) (D : va_G) (N0 : Nat) (cA cL : ClassId) (E : va_W) (h : Nat) (d : Nat → Nat) (z : S7) (c : C5) (v : Int32) (k : Nat) (hk : zLo v 12 = nI k) (hk12 : k < 12) (ht : zTg k = 108) (ho : zLo (v >>> (22 &&& 31)) 8 = 0) (hn : ¬ (zIn (zLo (v >>> (6 &&& 31)) 14) 11 ∧ zIn (zLo (v >>> (9 &&& 31)) 10) 7)) : Met l yL_act wsL_act ({ frames := 10, cells := 1, slots := 6, locals := 300 }) (va_Pc [.ref h, .int v] (zPre D N0 cA cL (wX h d cA z c ++ E))) (va_Qi (fun (rv : Int32) (_ : Unit) => rv = (-99999)) (fun _ t => zPost D N0 (wX h d cA z c ++ E) t) (zA N0)) 1 6 (zA N0) := by
  refine Met.ofW (cc := cL_act) (maxL := 5) (ret := (some .int)) (by decide) rfl ?_
  intro pr e s m ag below meth cd s₁ B hml hv
  obtain ⟨rfl, hN, hP, hD, hK, hE⟩ := hv
  have hx := B.exec
  have hb := B.bytes
  have hr := B.returns
  have hts := atoms_spec (ws := wsL_act) B.pre
  have hown : s.vm.findClass RL = some m.cls := findClass_of_methodNamed B.named
  have hlocks := B.notSynchronized
  have hS : va_S (zA N0) s.heap s.heap [] := va_S.rf
  have hl := lv_entry ([.ref h, .int v]) (n := 5) (Nat.le_of_ble_eq_true rfl)
  rw [lg_entry_eq]
  generalize (lg_sl ([.ref h, .int v]) ++ List.replicate (5 - (lg_sl ([.ref h, .int v])).length) Slot.unset).toArray = ls at hl ⊢
  have hl : lv_has ls 5 [(0, .ref h), (1, .int v)] := hl
  refine lv_iload_n hx hb dL_act_0 rfl (lv_at hl 1 rfl) ?_
  refine lv_bipush (v := 22) hx hb dL_act_1 (by decide) ?_
  refine lv_ishr hx hb dL_act_3 ?_
  refine lv_bipush (v := 8) hx hb dL_act_4 (by decide) ?_
  refine vp_callSi ((va_runS (As := [.int (v >>> (22 &&& 31)), .int 8]) (rest := []) ⟨hx, hb, hml, hown, hts⟩ (c_L_low l (v >>> (22 &&& 31)) 8 (by decide)) (va_cwS 2 hts gL_act_L_low rfl rfl rfl (by decide +kernel) ⟨Nat.le_of_ble_eq_true rfl, Nat.le_of_ble_eq_true rfl⟩) ⟨zT.blind, zT.call⟩ rfl rfl hl.1 rfl (lv_room (Nat.le_of_ble_eq_true rfl)) dL_act_6 ⟨Nat.zero_le _, Nat.zero_le _⟩).run) (fun r_6 h_6 => ?_)
  have h_6 : r_6 = (zLo (v >>> (22 &&& 31)) 8) := h_6
  subst h_6
  refine lv_if_ne (tgt := 16) hx hb dL_act_9 (by decide) (fun c_9 => ?_) (fun c_9 => ?_)
  · exact absurd ho c_9
  · refine lv_iconst (v := 1) hx hb dL_act_12 (by decide) ?_
    refine lv_goto (tgt := 17) hx hb dL_act_13 (by decide) ?_
    refine lv_istore_n (lv' := [(2, .int 1), (0, .ref h), (1, .int v)]) hx hb dL_act_17 rfl hl (by decide) rfl (fun ls hl => ?_)
    refine lv_iload_n hx hb dL_act_18 rfl (lv_at hl 2 rfl) ?_
    refine lv_iconst (v := 4) hx hb dL_act_19 (by decide) ?_
    refine lv_ishr hx hb dL_act_20 ?_
    refine lv_iload_n hx hb dL_act_21 rfl (lv_at hl 0 rfl) ?_
    refine lv_if_eq (tgt := 30) hx hb dL_act_22 (by decide) (fun c_22 => absurd c_22 (by decide)) (fun _ => ?_)
    refine lv_bipush (v := 6) hx hb dL_act_25 (by decide) ?_
    refine lv_goto (tgt := 31) hx hb dL_act_27 (by decide) ?_
    refine vp_callSi ((va_runS (As := [.int (v >>> (4 &&& 31)), .int 6]) (rest := []) ⟨hx, hb, hml, hown, hts⟩ (c_L_low l (v >>> (4 &&& 31)) 6 (by decide)) (va_cwS 2 hts gL_act_L_low rfl rfl rfl (by decide +kernel) ⟨Nat.le_of_ble_eq_true rfl, Nat.le_of_ble_eq_true rfl⟩) ⟨zT.blind, zT.call⟩ rfl rfl hl.1 rfl (lv_room (Nat.le_of_ble_eq_true rfl)) dL_act_31 ⟨Nat.zero_le _, Nat.zero_le _⟩).run) (fun r_31 h_31 => ?_)
    have h_31 : r_31 = (zLo (v >>> (4 &&& 31)) 6) := h_31
    subst h_31
    refine lv_istore_n (lv' := [(3, .int (zLo (v >>> (4 &&& 31)) 6)), (2, .int 1), (0, .ref h), (1, .int v)]) hx hb dL_act_34 rfl hl (by decide) rfl (fun ls hl => ?_)
    refine lv_iload_n hx hb dL_act_35 rfl (lv_at hl 3 rfl) ?_
    refine lv_bipush (v := 6) hx hb dL_act_36 (by decide) ?_
    refine lv_ishr hx hb dL_act_38 ?_
    refine lv_iload_n hx hb dL_act_39 rfl (lv_at hl 1 rfl) ?_
    refine lv_if_eq (tgt := 49) hx hb dL_act_40 (by decide) (fun c_40 => absurd c_40 (by decide)) (fun _ => ?_)
    refine lv_sipush (v := 13000) hx hb dL_act_43 (by decide) ?_
    refine lv_goto (tgt := 52) hx hb dL_act_46 (by decide) ?_
    refine vp_callSi ((va_runS (As := [.int (v >>> (6 &&& 31)), .int 13000]) (rest := []) ⟨hx, hb, hml, hown, hts⟩ (c_L_low l (v >>> (6 &&& 31)) 13000 (by decide)) (va_cwS 2 hts gL_act_L_low rfl rfl rfl (by decide +kernel) ⟨Nat.le_of_ble_eq_true rfl, Nat.le_of_ble_eq_true rfl⟩) ⟨zT.blind, zT.call⟩ rfl rfl hl.1 rfl (lv_room (Nat.le_of_ble_eq_true rfl)) dL_act_52 ⟨Nat.zero_le _, Nat.zero_le _⟩).run) (fun r_52 h_52 => ?_)
    have h_52 : r_52 = (zLo (v >>> (6 &&& 31)) 13000) := h_52
    subst h_52
    refine lv_istore (lv' := [(4, .int (zLo (v >>> (6 &&& 31)) 13000)), (3, .int (zLo (v >>> (4 &&& 31)) 6)), (2, .int 1), (0, .ref h), (1, .int v)]) hx hb dL_act_55 hl (by decide) rfl (fun ls hl => ?_)
    refine lv_iload_n hx hb dL_act_57 rfl (lv_at hl 4 rfl) ?_
    refine lv_bipush (v := 12) hx hb dL_act_58 (by decide) ?_
    refine vp_callSi ((va_runS (As := [.int v, .int 12]) (rest := []) ⟨hx, hb, hml, hown, hts⟩ (c_L_low l v 12 (by decide)) (va_cwS 2 hts gL_act_L_low rfl rfl rfl (by decide +kernel) ⟨Nat.le_of_ble_eq_true rfl, Nat.le_of_ble_eq_true rfl⟩) ⟨zT.blind, zT.call⟩ rfl rfl hl.1 rfl (lv_room (Nat.le_of_ble_eq_true rfl)) dL_act_60 ⟨Nat.zero_le _, Nat.zero_le _⟩).run) (fun r_60 h_60 => ?_)
    have h_60 : r_60 = (zLo v 12) := h_60
    subst h_60
    rw [show ((zLo v 12) : Int32) = (nI k) from hk]
    refine act_sw hx hb hk12 ?_
    rw [ht]
    refine lv_aload_n hx hb dL_act_108 rfl (lv_at hl 3 rfl) ?_
    refine lv_iload_n hx hb dL_act_109 rfl (lv_at hl 4 rfl) ?_
    refine lv_bipush (v := 6) hx hb dL_act_110 (by decide) ?_
    refine lv_ishr hx hb dL_act_112 ?_
    refine lv_iload_n hx hb dL_act_113 rfl (lv_at hl 2 rfl) ?_
    refine lv_if_eq (tgt := 122) hx hb dL_act_114 (by decide) (fun c_114 => absurd c_114 (by decide)) (fun _ => ?_)
    refine lv_bipush (v := 14) hx hb dL_act_117 (by decide) ?_
    refine lv_goto (tgt := 124) hx hb dL_act_119 (by decide) ?_
    refine vp_callSi ((va_runS (As := [.int (v >>> (6 &&& 31)), .int 14]) (rest := [.ref h]) ⟨hx, hb, hml, hown, hts⟩ (c_L_low l (v >>> (6 &&& 31)) 14 (by decide)) (va_cwS 2 hts gL_act_L_low rfl rfl rfl (by decide +kernel) ⟨Nat.le_of_ble_eq_true rfl, Nat.le_of_ble_eq_true rfl⟩) ⟨zT.blind, zT.call⟩ rfl rfl hl.1 rfl (lv_room (Nat.le_of_ble_eq_true rfl)) dL_act_124 ⟨Nat.zero_le _, Nat.zero_le _⟩).run) (fun r_124 h_124 => ?_)
    have h_124 : r_124 = (zLo (v >>> (6 &&& 31)) 14) := h_124
    subst h_124
    refine lv_iload_n hx hb dL_act_127 rfl (lv_at hl 4 rfl) ?_
    refine lv_bipush (v := 9) hx hb dL_act_128 (by decide) ?_
    refine lv_ishr hx hb dL_act_130 ?_
    refine lv_iload_n hx hb dL_act_131 rfl (lv_at hl 2 rfl) ?_
    refine lv_if_eq (tgt := 140) hx hb dL_act_132 (by decide) (fun c_132 => absurd c_132 (by decide)) (fun _ => ?_)
    refine lv_bipush (v := 10) hx hb dL_act_135 (by decide) ?_
    refine lv_goto (tgt := 142) hx hb dL_act_137 (by decide) ?_
    refine vp_callSi ((va_runS (As := [.int (v >>> (9 &&& 31)), .int 10]) (rest := [.int (zLo (v >>> (6 &&& 31)) 14), .ref h]) ⟨hx, hb, hml, hown, hts⟩ (c_L_low l (v >>> (9 &&& 31)) 10 (by decide)) (va_cwS 2 hts gL_act_L_low rfl rfl rfl (by decide +kernel) ⟨Nat.le_of_ble_eq_true rfl, Nat.le_of_ble_eq_true rfl⟩) ⟨zT.blind, zT.call⟩ rfl rfl hl.1 rfl (lv_room (Nat.le_of_ble_eq_true rfl)) dL_act_142 ⟨Nat.zero_le _, Nat.zero_le _⟩).run) (fun r_142 h_142 => ?_)
    have h_142 : r_142 = (zLo (v >>> (9 &&& 31)) 10) := h_142
    subst h_142
    refine va_calli (vx_runSW (As := [.ref h, .int (zLo (v >>> (6 &&& 31)) 14), .int (zLo (v >>> (9 &&& 31)) 10)]) (rest := []) ⟨hx, hb, hml, hown, hts⟩ (c_L_scale_1 l hst D N0 cA cL E h d z c (zLo (v >>> (6 &&& 31)) 14) (zLo (v >>> (9 &&& 31)) 10) hn) (vx_cwSW 3 hts gL_act_L_scale rfl rfl rfl (by decide +kernel) ⟨Nat.le_of_ble_eq_true rfl, Nat.le_of_ble_eq_true rfl⟩) ⟨zPre.blind, zPre.call hN hP hD hK hE hS⟩ rfl rfl hl.1 rfl (lv_room (Nat.le_of_ble_eq_true rfl)) dL_act_145 ⟨Nat.le_refl _, Nat.le_refl _⟩) hS (fun _ _ h9 => h9) (fun _ h9 => h9) (fun r_145 _ t H locs ht hvm h_145 hB hz1 hk1 hS => ?_)
    have h_145 : r_145 = (-99999) := h_145
    subst h_145
    obtain ⟨hP, hD⟩ := hB
    rw [ht] at hP
    have hP : va_P D vwCl (wX h d cA z c ++ E) H := hP
    have hD : va_D (zA N0) (wX h d cA z c ++ E) := hD
    exact W.iret (v := (-99999)) hx hb hr (fun t ht hW => ⟨⟨_, (), rfl, rfl, ⟨by rw [ht]; exact hP, hD⟩⟩, hS.F ht⟩) hS.2.2 dL_act_148

set_option maxHeartbeats 4000000 in
set_option maxRecDepth 100000 in
theorem c_L_act_nudge_e (l : Launch) (D : va_G) (N0 : Nat) (cA cL : ClassId) (E : va_W) (h : Nat) (d : Nat → Nat) (z : S7) (c : C5) (v : Int32) (k : Nat) (hk : zLo v 12 = nI k) (hk12 : k < 12) (ht : zTg k = 149) (ho : ¬ zLo (v >>> (22 &&& 31)) 8 = 0) (h1 : zIn (zLo (v >>> (5 &&& 31)) 101) 100) (h2 : zIn (zLo (v >>> (8 &&& 31)) 601) 600) (h3 : zIn (zLo (v >>> (11 &&& 31)) 1500) 12000) : Met l yL_act wsL_act ({ frames := 10, cells := 0, slots := 0, locals := 300 }) (va_Pc [.ref h, .int v] (zPre D N0 cA cL (wX h d cA z c ++ E))) (va_Qi (fun (rv : Int32) (_ : Unit) => rv = 1) (fun _ t => zPost D N0 (wX h d cA z (c.1, c.2.1, (zLo (v >>> (5 &&& 31)) 101), (zLo (v >>> (8 &&& 31)) 601), (zLo (v >>> (11 &&& 31)) 1500)) ++ E) t) (zA N0)) 0 0 (zA N0) := by
  refine Met.ofW (cc := cL_act) (maxL := 5) (ret := (some .int)) (by decide) rfl ?_
  intro pr e s m ag below meth cd s₁ B hml hv
  obtain ⟨rfl, hN, hP, hD, hK, hE⟩ := hv
  have hx := B.exec
  have hb := B.bytes
  have hr := B.returns
  have hts := atoms_spec (ws := wsL_act) B.pre
  have hown : s.vm.findClass RL = some m.cls := findClass_of_methodNamed B.named
  have hlocks := B.notSynchronized
  have hS : va_S (zA N0) s.heap s.heap [] := va_S.rf
  have hl := lv_entry ([.ref h, .int v]) (n := 5) (Nat.le_of_ble_eq_true rfl)
  rw [lg_entry_eq]
  generalize (lg_sl ([.ref h, .int v]) ++ List.replicate (5 - (lg_sl ([.ref h, .int v])).length) Slot.unset).toArray = ls at hl ⊢
  have hl : lv_has ls 5 [(0, .ref h), (1, .int v)] := hl
  refine lv_iload_n hx hb dL_act_0 rfl (lv_at hl 1 rfl) ?_
  refine lv_bipush (v := 22) hx hb dL_act_1 (by decide) ?_
  refine lv_ishr hx hb dL_act_3 ?_
  refine lv_bipush (v := 8) hx hb dL_act_4 (by decide) ?_
  refine vp_callSi ((va_runS (As := [.int (v >>> (22 &&& 31)), .int 8]) (rest := []) ⟨hx, hb, hml, hown, hts⟩ (c_L_low l (v >>> (22 &&& 31)) 8 (by decide)) (va_cwS 2 hts gL_act_L_low rfl rfl rfl (by decide +kernel) ⟨Nat.le_of_ble_eq_true rfl, Nat.le_of_ble_eq_true rfl⟩) ⟨zT.blind, zT.call⟩ rfl rfl hl.1 rfl (lv_room (Nat.le_of_ble_eq_true rfl)) dL_act_6 ⟨Nat.zero_le _, Nat.zero_le _⟩).run) (fun r_6 h_6 => ?_)
  have h_6 : r_6 = (zLo (v >>> (22 &&& 31)) 8) := h_6
  subst h_6
  refine lv_if_ne (tgt := 16) hx hb dL_act_9 (by decide) (fun c_9 => ?_) (fun c_9 => ?_)
  · refine lv_iconst (v := 0) hx hb dL_act_16 (by decide) ?_
    refine lv_istore_n (lv' := [(2, .int 0), (0, .ref h), (1, .int v)]) hx hb dL_act_17 rfl hl (by decide) rfl (fun ls hl => ?_)
    refine lv_iload_n hx hb dL_act_18 rfl (lv_at hl 2 rfl) ?_
    refine lv_iconst (v := 4) hx hb dL_act_19 (by decide) ?_
    refine lv_ishr hx hb dL_act_20 ?_
    refine lv_iload_n hx hb dL_act_21 rfl (lv_at hl 0 rfl) ?_
    refine lv_if_eq (tgt := 30) hx hb dL_act_22 (by decide) (fun _ => ?_) (fun c_22 => absurd c_22 (by decide))
    refine lv_iconst (v := 4) hx hb dL_act_30 (by decide) ?_
    refine vp_callSi ((va_runS (As := [.int (v >>> (4 &&& 31)), .int 4]) (rest := []) ⟨hx, hb, hml, hown, hts⟩ (c_L_low l (v >>> (4 &&& 31)) 4 (by decide)) (va_cwS 2 hts gL_act_L_low rfl rfl rfl (by decide +kernel) ⟨Nat.le_of_ble_eq_true rfl, Nat.le_of_ble_eq_true rfl⟩) ⟨zT.blind, zT.call⟩ rfl rfl hl.1 rfl (lv_room (Nat.le_of_ble_eq_true rfl)) dL_act_31 ⟨Nat.zero_le _, Nat.zero_le _⟩).run) (fun r_31 h_31 => ?_)
    have h_31 : r_31 = (zLo (v >>> (4 &&& 31)) 4) := h_31
    subst h_31
    refine lv_istore_n (lv' := [(3, .int (zLo (v >>> (4 &&& 31)) 4)), (2, .int 0), (0, .ref h), (1, .int v)]) hx hb dL_act_34 rfl hl (by decide) rfl (fun ls hl => ?_)
    refine lv_iload_n hx hb dL_act_35 rfl (lv_at hl 3 rfl) ?_
    refine lv_bipush (v := 6) hx hb dL_act_36 (by decide) ?_
    refine lv_ishr hx hb dL_act_38 ?_
    refine lv_iload_n hx hb dL_act_39 rfl (lv_at hl 1 rfl) ?_
    refine lv_if_eq (tgt := 49) hx hb dL_act_40 (by decide) (fun _ => ?_) (fun c_40 => absurd c_40 (by decide))
    refine lv_sipush (v := 12001) hx hb dL_act_49 (by decide) ?_
    refine vp_callSi ((va_runS (As := [.int (v >>> (6 &&& 31)), .int 12001]) (rest := []) ⟨hx, hb, hml, hown, hts⟩ (c_L_low l (v >>> (6 &&& 31)) 12001 (by decide)) (va_cwS 2 hts gL_act_L_low rfl rfl rfl (by decide +kernel) ⟨Nat.le_of_ble_eq_true rfl, Nat.le_of_ble_eq_true rfl⟩) ⟨zT.blind, zT.call⟩ rfl rfl hl.1 rfl (lv_room (Nat.le_of_ble_eq_true rfl)) dL_act_52 ⟨Nat.zero_le _, Nat.zero_le _⟩).run) (fun r_52 h_52 => ?_)
    have h_52 : r_52 = (zLo (v >>> (6 &&& 31)) 12001) := h_52
    subst h_52
    refine lv_istore (lv' := [(4, .int (zLo (v >>> (6 &&& 31)) 12001)), (3, .int (zLo (v >>> (4 &&& 31)) 4)), (2, .int 0), (0, .ref h), (1, .int v)]) hx hb dL_act_55 hl (by decide) rfl (fun ls hl => ?_)
    refine lv_iload_n hx hb dL_act_57 rfl (lv_at hl 4 rfl) ?_
    refine lv_bipush (v := 12) hx hb dL_act_58 (by decide) ?_
    refine vp_callSi ((va_runS (As := [.int v, .int 12]) (rest := []) ⟨hx, hb, hml, hown, hts⟩ (c_L_low l v 12 (by decide)) (va_cwS 2 hts gL_act_L_low rfl rfl rfl (by decide +kernel) ⟨Nat.le_of_ble_eq_true rfl, Nat.le_of_ble_eq_true rfl⟩) ⟨zT.blind, zT.call⟩ rfl rfl hl.1 rfl (lv_room (Nat.le_of_ble_eq_true rfl)) dL_act_60 ⟨Nat.zero_le _, Nat.zero_le _⟩).run) (fun r_60 h_60 => ?_)
    have h_60 : r_60 = (zLo v 12) := h_60
    subst h_60
    rw [show ((zLo v 12) : Int32) = (nI k) from hk]
    refine act_sw hx hb hk12 ?_
    rw [ht]
    refine lv_aload_n hx hb dL_act_149 rfl (lv_at hl 3 rfl) ?_
    refine lv_iload_n hx hb dL_act_150 rfl (lv_at hl 4 rfl) ?_
    refine lv_iconst (v := 5) hx hb dL_act_151 (by decide) ?_
    refine lv_ishr hx hb dL_act_152 ?_
    refine lv_iload_n hx hb dL_act_153 rfl (lv_at hl 2 rfl) ?_
    refine lv_if_eq (tgt := 162) hx hb dL_act_154 (by decide) (fun _ => ?_) (fun c_154 => absurd c_154 (by decide))
    refine lv_bipush (v := 101) hx hb dL_act_162 (by decide) ?_
    refine vp_callSi ((va_runS (As := [.int (v >>> (5 &&& 31)), .int 101]) (rest := [.ref h]) ⟨hx, hb, hml, hown, hts⟩ (c_L_low l (v >>> (5 &&& 31)) 101 (by decide)) (va_cwS 2 hts gL_act_L_low rfl rfl rfl (by decide +kernel) ⟨Nat.le_of_ble_eq_true rfl, Nat.le_of_ble_eq_true rfl⟩) ⟨zT.blind, zT.call⟩ rfl rfl hl.1 rfl (lv_room (Nat.le_of_ble_eq_true rfl)) dL_act_164 ⟨Nat.zero_le _, Nat.zero_le _⟩).run) (fun r_164 h_164 => ?_)
    have h_164 : r_164 = (zLo (v >>> (5 &&& 31)) 101) := h_164
    subst h_164
    refine lv_iload_n hx hb dL_act_167 rfl (lv_at hl 4 rfl) ?_
    refine lv_bipush (v := 8) hx hb dL_act_168 (by decide) ?_
    refine lv_ishr hx hb dL_act_170 ?_
    refine lv_iload_n hx hb dL_act_171 rfl (lv_at hl 2 rfl) ?_
    refine lv_if_eq (tgt := 181) hx hb dL_act_172 (by decide) (fun _ => ?_) (fun c_172 => absurd c_172 (by decide))
    refine lv_sipush (v := 601) hx hb dL_act_181 (by decide) ?_
    refine vp_callSi ((va_runS (As := [.int (v >>> (8 &&& 31)), .int 601]) (rest := [.int (zLo (v >>> (5 &&& 31)) 101), .ref h]) ⟨hx, hb, hml, hown, hts⟩ (c_L_low l (v >>> (8 &&& 31)) 601 (by decide)) (va_cwS 2 hts gL_act_L_low rfl rfl rfl (by decide +kernel) ⟨Nat.le_of_ble_eq_true rfl, Nat.le_of_ble_eq_true rfl⟩) ⟨zT.blind, zT.call⟩ rfl rfl hl.1 rfl (lv_room (Nat.le_of_ble_eq_true rfl)) dL_act_184 ⟨Nat.zero_le _, Nat.zero_le _⟩).run) (fun r_184 h_184 => ?_)
    have h_184 : r_184 = (zLo (v >>> (8 &&& 31)) 601) := h_184
    subst h_184
    refine lv_iload_n hx hb dL_act_187 rfl (lv_at hl 4 rfl) ?_
    refine lv_bipush (v := 11) hx hb dL_act_188 (by decide) ?_
    refine lv_ishr hx hb dL_act_190 ?_
    refine lv_iload_n hx hb dL_act_191 rfl (lv_at hl 2 rfl) ?_
    refine lv_if_eq (tgt := 201) hx hb dL_act_192 (by decide) (fun _ => ?_) (fun c_192 => absurd c_192 (by decide))
    refine lv_sipush (v := 1500) hx hb dL_act_201 (by decide) ?_
    refine vp_callSi ((va_runS (As := [.int (v >>> (11 &&& 31)), .int 1500]) (rest := [.int (zLo (v >>> (8 &&& 31)) 601), .int (zLo (v >>> (5 &&& 31)) 101), .ref h]) ⟨hx, hb, hml, hown, hts⟩ (c_L_low l (v >>> (11 &&& 31)) 1500 (by decide)) (va_cwS 2 hts gL_act_L_low rfl rfl rfl (by decide +kernel) ⟨Nat.le_of_ble_eq_true rfl, Nat.le_of_ble_eq_true rfl⟩) ⟨zT.blind, zT.call⟩ rfl rfl hl.1 rfl (lv_room (Nat.le_of_ble_eq_true rfl)) dL_act_204 ⟨Nat.zero_le _, Nat.zero_le _⟩).run) (fun r_204 h_204 => ?_)
    have h_204 : r_204 = (zLo (v >>> (11 &&& 31)) 1500) := h_204
    subst h_204
    refine va_calli (vx_runSW (As := [.ref h, .int (zLo (v >>> (5 &&& 31)) 101), .int (zLo (v >>> (8 &&& 31)) 601), .int (zLo (v >>> (11 &&& 31)) 1500)]) (rest := []) ⟨hx, hb, hml, hown, hts⟩ (c_L_nudge_v l D N0 cA cL E h d z c (zLo (v >>> (5 &&& 31)) 101) (zLo (v >>> (8 &&& 31)) 601) (zLo (v >>> (11 &&& 31)) 1500) h1 h2 h3) (vx_cwSW 4 hts gL_act_L_nudge rfl rfl rfl (by decide +kernel) ⟨Nat.le_of_ble_eq_true rfl, Nat.le_of_ble_eq_true rfl⟩) ⟨zPre.blind, zPre.call hN hP hD hK hE hS⟩ rfl rfl hl.1 rfl (lv_room (Nat.le_of_ble_eq_true rfl)) dL_act_207 ⟨Nat.zero_le _, Nat.zero_le _⟩) hS (fun _ _ h9 => h9) (fun _ h9 => h9) (fun r_207 _ t H locs ht hvm h_207 hB hz1 hk1 hS => ?_)
    have h_207 : r_207 = 1 := h_207
    subst h_207
    obtain ⟨hP, hD⟩ := hB
    rw [ht] at hP
    have hP : va_P D vwCl (wX h d cA z (c.1, c.2.1, (zLo (v >>> (5 &&& 31)) 101), (zLo (v >>> (8 &&& 31)) 601), (zLo (v >>> (11 &&& 31)) 1500)) ++ E) H := hP
    have hD : va_D (zA N0) (wX h d cA z (c.1, c.2.1, (zLo (v >>> (5 &&& 31)) 101), (zLo (v >>> (8 &&& 31)) 601), (zLo (v >>> (11 &&& 31)) 1500)) ++ E) := hD
    refine lv_if_eq (tgt := 217) hx hb dL_act_210 (by decide) (fun c_210 => absurd c_210 (by decide)) (fun _ => ?_)
    refine lv_iconst (v := 1) hx hb dL_act_213 (by decide) ?_
    refine lv_goto (tgt := 219) hx hb dL_act_214 (by decide) ?_
    exact W.iret (v := 1) hx hb hr (fun t ht hW => ⟨⟨_, (), rfl, rfl, ⟨by rw [ht]; exact hP, hD⟩⟩, hS.F ht⟩) hS.2.2 dL_act_219
  · exact absurd c_9 ho

set_option maxHeartbeats 4000000 in
set_option maxRecDepth 100000 in
theorem c_L_act_nudge_o (l : Launch) (D : va_G) (N0 : Nat) (cA cL : ClassId) (E : va_W) (h : Nat) (d : Nat → Nat) (z : S7) (c : C5) (v : Int32) (k : Nat) (hk : zLo v 12 = nI k) (hk12 : k < 12) (ht : zTg k = 149) (ho : zLo (v >>> (22 &&& 31)) 8 = 0) (h1 : zIn (zLo (v >>> (5 &&& 31)) 120) 100) (h2 : zIn (zLo (v >>> (8 &&& 31)) 700) 600) (h3 : zIn (zLo (v >>> (11 &&& 31)) 13000) 12000) : Met l yL_act wsL_act ({ frames := 10, cells := 0, slots := 0, locals := 300 }) (va_Pc [.ref h, .int v] (zPre D N0 cA cL (wX h d cA z c ++ E))) (va_Qi (fun (rv : Int32) (_ : Unit) => rv = 1) (fun _ t => zPost D N0 (wX h d cA z (c.1, c.2.1, (zLo (v >>> (5 &&& 31)) 120), (zLo (v >>> (8 &&& 31)) 700), (zLo (v >>> (11 &&& 31)) 13000)) ++ E) t) (zA N0)) 0 0 (zA N0) := by
  refine Met.ofW (cc := cL_act) (maxL := 5) (ret := (some .int)) (by decide) rfl ?_
  intro pr e s m ag below meth cd s₁ B hml hv
  obtain ⟨rfl, hN, hP, hD, hK, hE⟩ := hv
  have hx := B.exec
  have hb := B.bytes
  have hr := B.returns
  have hts := atoms_spec (ws := wsL_act) B.pre
  have hown : s.vm.findClass RL = some m.cls := findClass_of_methodNamed B.named
  have hlocks := B.notSynchronized
  have hS : va_S (zA N0) s.heap s.heap [] := va_S.rf
  have hl := lv_entry ([.ref h, .int v]) (n := 5) (Nat.le_of_ble_eq_true rfl)
  rw [lg_entry_eq]
  generalize (lg_sl ([.ref h, .int v]) ++ List.replicate (5 - (lg_sl ([.ref h, .int v])).length) Slot.unset).toArray = ls at hl ⊢
  have hl : lv_has ls 5 [(0, .ref h), (1, .int v)] := hl
  refine lv_iload_n hx hb dL_act_0 rfl (lv_at hl 1 rfl) ?_
  refine lv_bipush (v := 22) hx hb dL_act_1 (by decide) ?_
  refine lv_ishr hx hb dL_act_3 ?_
  refine lv_bipush (v := 8) hx hb dL_act_4 (by decide) ?_
  refine vp_callSi ((va_runS (As := [.int (v >>> (22 &&& 31)), .int 8]) (rest := []) ⟨hx, hb, hml, hown, hts⟩ (c_L_low l (v >>> (22 &&& 31)) 8 (by decide)) (va_cwS 2 hts gL_act_L_low rfl rfl rfl (by decide +kernel) ⟨Nat.le_of_ble_eq_true rfl, Nat.le_of_ble_eq_true rfl⟩) ⟨zT.blind, zT.call⟩ rfl rfl hl.1 rfl (lv_room (Nat.le_of_ble_eq_true rfl)) dL_act_6 ⟨Nat.zero_le _, Nat.zero_le _⟩).run) (fun r_6 h_6 => ?_)
  have h_6 : r_6 = (zLo (v >>> (22 &&& 31)) 8) := h_6
  subst h_6
  refine lv_if_ne (tgt := 16) hx hb dL_act_9 (by decide) (fun c_9 => ?_) (fun c_9 => ?_)
  · exact absurd ho c_9
  · refine lv_iconst (v := 1) hx hb dL_act_12 (by decide) ?_
    refine lv_goto (tgt := 17) hx hb dL_act_13 (by decide) ?_
    refine lv_istore_n (lv' := [(2, .int 1), (0, .ref h), (1, .int v)]) hx hb dL_act_17 rfl hl (by decide) rfl (fun ls hl => ?_)
    refine lv_iload_n hx hb dL_act_18 rfl (lv_at hl 2 rfl) ?_
    refine lv_iconst (v := 4) hx hb dL_act_19 (by decide) ?_
    refine lv_ishr hx hb dL_act_20 ?_
    refine lv_iload_n hx hb dL_act_21 rfl (lv_at hl 0 rfl) ?_
    refine lv_if_eq (tgt := 30) hx hb dL_act_22 (by decide) (fun c_22 => absurd c_22 (by decide)) (fun _ => ?_)
    refine lv_bipush (v := 6) hx hb dL_act_25 (by decide) ?_
    refine lv_goto (tgt := 31) hx hb dL_act_27 (by decide) ?_
    refine vp_callSi ((va_runS (As := [.int (v >>> (4 &&& 31)), .int 6]) (rest := []) ⟨hx, hb, hml, hown, hts⟩ (c_L_low l (v >>> (4 &&& 31)) 6 (by decide)) (va_cwS 2 hts gL_act_L_low rfl rfl rfl (by decide +kernel) ⟨Nat.le_of_ble_eq_true rfl, Nat.le_of_ble_eq_true rfl⟩) ⟨zT.blind, zT.call⟩ rfl rfl hl.1 rfl (lv_room (Nat.le_of_ble_eq_true rfl)) dL_act_31 ⟨Nat.zero_le _, Nat.zero_le _⟩).run) (fun r_31 h_31 => ?_)
    have h_31 : r_31 = (zLo (v >>> (4 &&& 31)) 6) := h_31
    subst h_31
    refine lv_istore_n (lv' := [(3, .int (zLo (v >>> (4 &&& 31)) 6)), (2, .int 1), (0, .ref h), (1, .int v)]) hx hb dL_act_34 rfl hl (by decide) rfl (fun ls hl => ?_)
    refine lv_iload_n hx hb dL_act_35 rfl (lv_at hl 3 rfl) ?_
    refine lv_bipush (v := 6) hx hb dL_act_36 (by decide) ?_
    refine lv_ishr hx hb dL_act_38 ?_
    refine lv_iload_n hx hb dL_act_39 rfl (lv_at hl 1 rfl) ?_
    refine lv_if_eq (tgt := 49) hx hb dL_act_40 (by decide) (fun c_40 => absurd c_40 (by decide)) (fun _ => ?_)
    refine lv_sipush (v := 13000) hx hb dL_act_43 (by decide) ?_
    refine lv_goto (tgt := 52) hx hb dL_act_46 (by decide) ?_
    refine vp_callSi ((va_runS (As := [.int (v >>> (6 &&& 31)), .int 13000]) (rest := []) ⟨hx, hb, hml, hown, hts⟩ (c_L_low l (v >>> (6 &&& 31)) 13000 (by decide)) (va_cwS 2 hts gL_act_L_low rfl rfl rfl (by decide +kernel) ⟨Nat.le_of_ble_eq_true rfl, Nat.le_of_ble_eq_true rfl⟩) ⟨zT.blind, zT.call⟩ rfl rfl hl.1 rfl (lv_room (Nat.le_of_ble_eq_true rfl)) dL_act_52 ⟨Nat.zero_le _, Nat.zero_le _⟩).run) (fun r_52 h_52 => ?_)
    have h_52 : r_52 = (zLo (v >>> (6 &&& 31)) 13000) := h_52
    subst h_52
    refine lv_istore (lv' := [(4, .int (zLo (v >>> (6 &&& 31)) 13000)), (3, .int (zLo (v >>> (4 &&& 31)) 6)), (2, .int 1), (0, .ref h), (1, .int v)]) hx hb dL_act_55 hl (by decide) rfl (fun ls hl => ?_)
    refine lv_iload_n hx hb dL_act_57 rfl (lv_at hl 4 rfl) ?_
    refine lv_bipush (v := 12) hx hb dL_act_58 (by decide) ?_
    refine vp_callSi ((va_runS (As := [.int v, .int 12]) (rest := []) ⟨hx, hb, hml, hown, hts⟩ (c_L_low l v 12 (by decide)) (va_cwS 2 hts gL_act_L_low rfl rfl rfl (by decide +kernel) ⟨Nat.le_of_ble_eq_true rfl, Nat.le_of_ble_eq_true rfl⟩) ⟨zT.blind, zT.call⟩ rfl rfl hl.1 rfl (lv_room (Nat.le_of_ble_eq_true rfl)) dL_act_60 ⟨Nat.zero_le _, Nat.zero_le _⟩).run) (fun r_60 h_60 => ?_)
    have h_60 : r_60 = (zLo v 12) := h_60
    subst h_60
    rw [show ((zLo v 12) : Int32) = (nI k) from hk]
    refine act_sw hx hb hk12 ?_
    rw [ht]
    refine lv_aload_n hx hb dL_act_149 rfl (lv_at hl 3 rfl) ?_
    refine lv_iload_n hx hb dL_act_150 rfl (lv_at hl 4 rfl) ?_
    refine lv_iconst (v := 5) hx hb dL_act_151 (by decide) ?_
    refine lv_ishr hx hb dL_act_152 ?_
    refine lv_iload_n hx hb dL_act_153 rfl (lv_at hl 2 rfl) ?_
    refine lv_if_eq (tgt := 162) hx hb dL_act_154 (by decide) (fun c_154 => absurd c_154 (by decide)) (fun _ => ?_)
    refine lv_bipush (v := 120) hx hb dL_act_157 (by decide) ?_
    refine lv_goto (tgt := 164) hx hb dL_act_159 (by decide) ?_
    refine vp_callSi ((va_runS (As := [.int (v >>> (5 &&& 31)), .int 120]) (rest := [.ref h]) ⟨hx, hb, hml, hown, hts⟩ (c_L_low l (v >>> (5 &&& 31)) 120 (by decide)) (va_cwS 2 hts gL_act_L_low rfl rfl rfl (by decide +kernel) ⟨Nat.le_of_ble_eq_true rfl, Nat.le_of_ble_eq_true rfl⟩) ⟨zT.blind, zT.call⟩ rfl rfl hl.1 rfl (lv_room (Nat.le_of_ble_eq_true rfl)) dL_act_164 ⟨Nat.zero_le _, Nat.zero_le _⟩).run) (fun r_164 h_164 => ?_)
    have h_164 : r_164 = (zLo (v >>> (5 &&& 31)) 120) := h_164
    subst h_164
    refine lv_iload_n hx hb dL_act_167 rfl (lv_at hl 4 rfl) ?_
    refine lv_bipush (v := 8) hx hb dL_act_168 (by decide) ?_
    refine lv_ishr hx hb dL_act_170 ?_
    refine lv_iload_n hx hb dL_act_171 rfl (lv_at hl 2 rfl) ?_
    refine lv_if_eq (tgt := 181) hx hb dL_act_172 (by decide) (fun c_172 => absurd c_172 (by decide)) (fun _ => ?_)
    refine lv_sipush (v := 700) hx hb dL_act_175 (by decide) ?_
    refine lv_goto (tgt := 184) hx hb dL_act_178 (by decide) ?_
    refine vp_callSi ((va_runS (As := [.int (v >>> (8 &&& 31)), .int 700]) (rest := [.int (zLo (v >>> (5 &&& 31)) 120), .ref h]) ⟨hx, hb, hml, hown, hts⟩ (c_L_low l (v >>> (8 &&& 31)) 700 (by decide)) (va_cwS 2 hts gL_act_L_low rfl rfl rfl (by decide +kernel) ⟨Nat.le_of_ble_eq_true rfl, Nat.le_of_ble_eq_true rfl⟩) ⟨zT.blind, zT.call⟩ rfl rfl hl.1 rfl (lv_room (Nat.le_of_ble_eq_true rfl)) dL_act_184 ⟨Nat.zero_le _, Nat.zero_le _⟩).run) (fun r_184 h_184 => ?_)
    have h_184 : r_184 = (zLo (v >>> (8 &&& 31)) 700) := h_184
    subst h_184
    refine lv_iload_n hx hb dL_act_187 rfl (lv_at hl 4 rfl) ?_
    refine lv_bipush (v := 11) hx hb dL_act_188 (by decide) ?_
    refine lv_ishr hx hb dL_act_190 ?_
    refine lv_iload_n hx hb dL_act_191 rfl (lv_at hl 2 rfl) ?_
    refine lv_if_eq (tgt := 201) hx hb dL_act_192 (by decide) (fun c_192 => absurd c_192 (by decide)) (fun _ => ?_)
    refine lv_sipush (v := 13000) hx hb dL_act_195 (by decide) ?_
    refine lv_goto (tgt := 204) hx hb dL_act_198 (by decide) ?_
    refine vp_callSi ((va_runS (As := [.int (v >>> (11 &&& 31)), .int 13000]) (rest := [.int (zLo (v >>> (8 &&& 31)) 700), .int (zLo (v >>> (5 &&& 31)) 120), .ref h]) ⟨hx, hb, hml, hown, hts⟩ (c_L_low l (v >>> (11 &&& 31)) 13000 (by decide)) (va_cwS 2 hts gL_act_L_low rfl rfl rfl (by decide +kernel) ⟨Nat.le_of_ble_eq_true rfl, Nat.le_of_ble_eq_true rfl⟩) ⟨zT.blind, zT.call⟩ rfl rfl hl.1 rfl (lv_room (Nat.le_of_ble_eq_true rfl)) dL_act_204 ⟨Nat.zero_le _, Nat.zero_le _⟩).run) (fun r_204 h_204 => ?_)
    have h_204 : r_204 = (zLo (v >>> (11 &&& 31)) 13000) := h_204
    subst h_204
    refine va_calli (vx_runSW (As := [.ref h, .int (zLo (v >>> (5 &&& 31)) 120), .int (zLo (v >>> (8 &&& 31)) 700), .int (zLo (v >>> (11 &&& 31)) 13000)]) (rest := []) ⟨hx, hb, hml, hown, hts⟩ (c_L_nudge_v l D N0 cA cL E h d z c (zLo (v >>> (5 &&& 31)) 120) (zLo (v >>> (8 &&& 31)) 700) (zLo (v >>> (11 &&& 31)) 13000) h1 h2 h3) (vx_cwSW 4 hts gL_act_L_nudge rfl rfl rfl (by decide +kernel) ⟨Nat.le_of_ble_eq_true rfl, Nat.le_of_ble_eq_true rfl⟩) ⟨zPre.blind, zPre.call hN hP hD hK hE hS⟩ rfl rfl hl.1 rfl (lv_room (Nat.le_of_ble_eq_true rfl)) dL_act_207 ⟨Nat.zero_le _, Nat.zero_le _⟩) hS (fun _ _ h9 => h9) (fun _ h9 => h9) (fun r_207 _ t H locs ht hvm h_207 hB hz1 hk1 hS => ?_)
    have h_207 : r_207 = 1 := h_207
    subst h_207
    obtain ⟨hP, hD⟩ := hB
    rw [ht] at hP
    have hP : va_P D vwCl (wX h d cA z (c.1, c.2.1, (zLo (v >>> (5 &&& 31)) 120), (zLo (v >>> (8 &&& 31)) 700), (zLo (v >>> (11 &&& 31)) 13000)) ++ E) H := hP
    have hD : va_D (zA N0) (wX h d cA z (c.1, c.2.1, (zLo (v >>> (5 &&& 31)) 120), (zLo (v >>> (8 &&& 31)) 700), (zLo (v >>> (11 &&& 31)) 13000)) ++ E) := hD
    refine lv_if_eq (tgt := 217) hx hb dL_act_210 (by decide) (fun c_210 => absurd c_210 (by decide)) (fun _ => ?_)
    refine lv_iconst (v := 1) hx hb dL_act_213 (by decide) ?_
    refine lv_goto (tgt := 219) hx hb dL_act_214 (by decide) ?_
    exact W.iret (v := 1) hx hb hr (fun t ht hW => ⟨⟨_, (), rfl, rfl, ⟨by rw [ht]; exact hP, hD⟩⟩, hS.F ht⟩) hS.2.2 dL_act_219

set_option maxHeartbeats 4000000 in
set_option maxRecDepth 100000 in
theorem c_L_act_nudge_x (l : Launch) (hst : l.stackTraces = false) (D : va_G) (N0 : Nat) (cA cL : ClassId) (E : va_W) (h : Nat) (d : Nat → Nat) (z : S7) (c : C5) (v : Int32) (k : Nat) (hk : zLo v 12 = nI k) (hk12 : k < 12) (ht : zTg k = 149) (ho : zLo (v >>> (22 &&& 31)) 8 = 0) (hn : ¬ (zIn (zLo (v >>> (5 &&& 31)) 120) 100 ∧ zIn (zLo (v >>> (8 &&& 31)) 700) 600 ∧ zIn (zLo (v >>> (11 &&& 31)) 13000) 12000)) : Met l yL_act wsL_act ({ frames := 10, cells := 1, slots := 6, locals := 300 }) (va_Pc [.ref h, .int v] (zPre D N0 cA cL (wX h d cA z c ++ E))) (va_Qi (fun (rv : Int32) (_ : Unit) => rv = (-99999)) (fun _ t => zPost D N0 (wX h d cA z c ++ E) t) (zA N0)) 1 6 (zA N0) := by
  refine Met.ofW (cc := cL_act) (maxL := 5) (ret := (some .int)) (by decide) rfl ?_
  intro pr e s m ag below meth cd s₁ B hml hv
  obtain ⟨rfl, hN, hP, hD, hK, hE⟩ := hv
  have hx := B.exec
  have hb := B.bytes
  have hr := B.returns
  have hts := atoms_spec (ws := wsL_act) B.pre
  have hown : s.vm.findClass RL = some m.cls := findClass_of_methodNamed B.named
  have hlocks := B.notSynchronized
  have hS : va_S (zA N0) s.heap s.heap [] := va_S.rf
  have hl := lv_entry ([.ref h, .int v]) (n := 5) (Nat.le_of_ble_eq_true rfl)
  rw [lg_entry_eq]
  generalize (lg_sl ([.ref h, .int v]) ++ List.replicate (5 - (lg_sl ([.ref h, .int v])).length) Slot.unset).toArray = ls at hl ⊢
  have hl : lv_has ls 5 [(0, .ref h), (1, .int v)] := hl
  refine lv_iload_n hx hb dL_act_0 rfl (lv_at hl 1 rfl) ?_
  refine lv_bipush (v := 22) hx hb dL_act_1 (by decide) ?_
  refine lv_ishr hx hb dL_act_3 ?_
  refine lv_bipush (v := 8) hx hb dL_act_4 (by decide) ?_
  refine vp_callSi ((va_runS (As := [.int (v >>> (22 &&& 31)), .int 8]) (rest := []) ⟨hx, hb, hml, hown, hts⟩ (c_L_low l (v >>> (22 &&& 31)) 8 (by decide)) (va_cwS 2 hts gL_act_L_low rfl rfl rfl (by decide +kernel) ⟨Nat.le_of_ble_eq_true rfl, Nat.le_of_ble_eq_true rfl⟩) ⟨zT.blind, zT.call⟩ rfl rfl hl.1 rfl (lv_room (Nat.le_of_ble_eq_true rfl)) dL_act_6 ⟨Nat.zero_le _, Nat.zero_le _⟩).run) (fun r_6 h_6 => ?_)
  have h_6 : r_6 = (zLo (v >>> (22 &&& 31)) 8) := h_6
  subst h_6
  refine lv_if_ne (tgt := 16) hx hb dL_act_9 (by decide) (fun c_9 => ?_) (fun c_9 => ?_)
  · exact absurd ho c_9
  · refine lv_iconst (v := 1) hx hb dL_act_12 (by decide) ?_
    refine lv_goto (tgt := 17) hx hb dL_act_13 (by decide) ?_
    refine lv_istore_n (lv' := [(2, .int 1), (0, .ref h), (1, .int v)]) hx hb dL_act_17 rfl hl (by decide) rfl (fun ls hl => ?_)
    refine lv_iload_n hx hb dL_act_18 rfl (lv_at hl 2 rfl) ?_
    refine lv_iconst (v := 4) hx hb dL_act_19 (by decide) ?_
    refine lv_ishr hx hb dL_act_20 ?_
    refine lv_iload_n hx hb dL_act_21 rfl (lv_at hl 0 rfl) ?_
    refine lv_if_eq (tgt := 30) hx hb dL_act_22 (by decide) (fun c_22 => absurd c_22 (by decide)) (fun _ => ?_)
    refine lv_bipush (v := 6) hx hb dL_act_25 (by decide) ?_
    refine lv_goto (tgt := 31) hx hb dL_act_27 (by decide) ?_
    refine vp_callSi ((va_runS (As := [.int (v >>> (4 &&& 31)), .int 6]) (rest := []) ⟨hx, hb, hml, hown, hts⟩ (c_L_low l (v >>> (4 &&& 31)) 6 (by decide)) (va_cwS 2 hts gL_act_L_low rfl rfl rfl (by decide +kernel) ⟨Nat.le_of_ble_eq_true rfl, Nat.le_of_ble_eq_true rfl⟩) ⟨zT.blind, zT.call⟩ rfl rfl hl.1 rfl (lv_room (Nat.le_of_ble_eq_true rfl)) dL_act_31 ⟨Nat.zero_le _, Nat.zero_le _⟩).run) (fun r_31 h_31 => ?_)
    have h_31 : r_31 = (zLo (v >>> (4 &&& 31)) 6) := h_31
    subst h_31
    refine lv_istore_n (lv' := [(3, .int (zLo (v >>> (4 &&& 31)) 6)), (2, .int 1), (0, .ref h), (1, .int v)]) hx hb dL_act_34 rfl hl (by decide) rfl (fun ls hl => ?_)
    refine lv_iload_n hx hb dL_act_35 rfl (lv_at hl 3 rfl) ?_
    refine lv_bipush (v := 6) hx hb dL_act_36 (by decide) ?_
    refine lv_ishr hx hb dL_act_38 ?_
    refine lv_iload_n hx hb dL_act_39 rfl (lv_at hl 1 rfl) ?_
    refine lv_if_eq (tgt := 49) hx hb dL_act_40 (by decide) (fun c_40 => absurd c_40 (by decide)) (fun _ => ?_)
    refine lv_sipush (v := 13000) hx hb dL_act_43 (by decide) ?_
    refine lv_goto (tgt := 52) hx hb dL_act_46 (by decide) ?_
    refine vp_callSi ((va_runS (As := [.int (v >>> (6 &&& 31)), .int 13000]) (rest := []) ⟨hx, hb, hml, hown, hts⟩ (c_L_low l (v >>> (6 &&& 31)) 13000 (by decide)) (va_cwS 2 hts gL_act_L_low rfl rfl rfl (by decide +kernel) ⟨Nat.le_of_ble_eq_true rfl, Nat.le_of_ble_eq_true rfl⟩) ⟨zT.blind, zT.call⟩ rfl rfl hl.1 rfl (lv_room (Nat.le_of_ble_eq_true rfl)) dL_act_52 ⟨Nat.zero_le _, Nat.zero_le _⟩).run) (fun r_52 h_52 => ?_)
    have h_52 : r_52 = (zLo (v >>> (6 &&& 31)) 13000) := h_52
    subst h_52
    refine lv_istore (lv' := [(4, .int (zLo (v >>> (6 &&& 31)) 13000)), (3, .int (zLo (v >>> (4 &&& 31)) 6)), (2, .int 1), (0, .ref h), (1, .int v)]) hx hb dL_act_55 hl (by decide) rfl (fun ls hl => ?_)
    refine lv_iload_n hx hb dL_act_57 rfl (lv_at hl 4 rfl) ?_
    refine lv_bipush (v := 12) hx hb dL_act_58 (by decide) ?_
    refine vp_callSi ((va_runS (As := [.int v, .int 12]) (rest := []) ⟨hx, hb, hml, hown, hts⟩ (c_L_low l v 12 (by decide)) (va_cwS 2 hts gL_act_L_low rfl rfl rfl (by decide +kernel) ⟨Nat.le_of_ble_eq_true rfl, Nat.le_of_ble_eq_true rfl⟩) ⟨zT.blind, zT.call⟩ rfl rfl hl.1 rfl (lv_room (Nat.le_of_ble_eq_true rfl)) dL_act_60 ⟨Nat.zero_le _, Nat.zero_le _⟩).run) (fun r_60 h_60 => ?_)
    have h_60 : r_60 = (zLo v 12) := h_60
    subst h_60
    rw [show ((zLo v 12) : Int32) = (nI k) from hk]
    refine act_sw hx hb hk12 ?_
    rw [ht]
    refine lv_aload_n hx hb dL_act_149 rfl (lv_at hl 3 rfl) ?_
    refine lv_iload_n hx hb dL_act_150 rfl (lv_at hl 4 rfl) ?_
    refine lv_iconst (v := 5) hx hb dL_act_151 (by decide) ?_
    refine lv_ishr hx hb dL_act_152 ?_
    refine lv_iload_n hx hb dL_act_153 rfl (lv_at hl 2 rfl) ?_
    refine lv_if_eq (tgt := 162) hx hb dL_act_154 (by decide) (fun c_154 => absurd c_154 (by decide)) (fun _ => ?_)
    refine lv_bipush (v := 120) hx hb dL_act_157 (by decide) ?_
    refine lv_goto (tgt := 164) hx hb dL_act_159 (by decide) ?_
    refine vp_callSi ((va_runS (As := [.int (v >>> (5 &&& 31)), .int 120]) (rest := [.ref h]) ⟨hx, hb, hml, hown, hts⟩ (c_L_low l (v >>> (5 &&& 31)) 120 (by decide)) (va_cwS 2 hts gL_act_L_low rfl rfl rfl (by decide +kernel) ⟨Nat.le_of_ble_eq_true rfl, Nat.le_of_ble_eq_true rfl⟩) ⟨zT.blind, zT.call⟩ rfl rfl hl.1 rfl (lv_room (Nat.le_of_ble_eq_true rfl)) dL_act_164 ⟨Nat.zero_le _, Nat.zero_le _⟩).run) (fun r_164 h_164 => ?_)
    have h_164 : r_164 = (zLo (v >>> (5 &&& 31)) 120) := h_164
    subst h_164
    refine lv_iload_n hx hb dL_act_167 rfl (lv_at hl 4 rfl) ?_
    refine lv_bipush (v := 8) hx hb dL_act_168 (by decide) ?_
    refine lv_ishr hx hb dL_act_170 ?_
    refine lv_iload_n hx hb dL_act_171 rfl (lv_at hl 2 rfl) ?_
    refine lv_if_eq (tgt := 181) hx hb dL_act_172 (by decide) (fun c_172 => absurd c_172 (by decide)) (fun _ => ?_)
    refine lv_sipush (v := 700) hx hb dL_act_175 (by decide) ?_
    refine lv_goto (tgt := 184) hx hb dL_act_178 (by decide) ?_
    refine vp_callSi ((va_runS (As := [.int (v >>> (8 &&& 31)), .int 700]) (rest := [.int (zLo (v >>> (5 &&& 31)) 120), .ref h]) ⟨hx, hb, hml, hown, hts⟩ (c_L_low l (v >>> (8 &&& 31)) 700 (by decide)) (va_cwS 2 hts gL_act_L_low rfl rfl rfl (by decide +kernel) ⟨Nat.le_of_ble_eq_true rfl, Nat.le_of_ble_eq_true rfl⟩) ⟨zT.blind, zT.call⟩ rfl rfl hl.1 rfl (lv_room (Nat.le_of_ble_eq_true rfl)) dL_act_184 ⟨Nat.zero_le _, Nat.zero_le _⟩).run) (fun r_184 h_184 => ?_)
    have h_184 : r_184 = (zLo (v >>> (8 &&& 31)) 700) := h_184
    subst h_184
    refine lv_iload_n hx hb dL_act_187 rfl (lv_at hl 4 rfl) ?_
    refine lv_bipush (v := 11) hx hb dL_act_188 (by decide) ?_
    refine lv_ishr hx hb dL_act_190 ?_
    refine lv_iload_n hx hb dL_act_191 rfl (lv_at hl 2 rfl) ?_
    refine lv_if_eq (tgt := 201) hx hb dL_act_192 (by decide) (fun c_192 => absurd c_192 (by decide)) (fun _ => ?_)
    refine lv_sipush (v := 13000) hx hb dL_act_195 (by decide) ?_
    refine lv_goto (tgt := 204) hx hb dL_act_198 (by decide) ?_
    refine vp_callSi ((va_runS (As := [.int (v >>> (11 &&& 31)), .int 13000]) (rest := [.int (zLo (v >>> (8 &&& 31)) 700), .int (zLo (v >>> (5 &&& 31)) 120), .ref h]) ⟨hx, hb, hml, hown, hts⟩ (c_L_low l (v >>> (11 &&& 31)) 13000 (by decide)) (va_cwS 2 hts gL_act_L_low rfl rfl rfl (by decide +kernel) ⟨Nat.le_of_ble_eq_true rfl, Nat.le_of_ble_eq_true rfl⟩) ⟨zT.blind, zT.call⟩ rfl rfl hl.1 rfl (lv_room (Nat.le_of_ble_eq_true rfl)) dL_act_204 ⟨Nat.zero_le _, Nat.zero_le _⟩).run) (fun r_204 h_204 => ?_)
    have h_204 : r_204 = (zLo (v >>> (11 &&& 31)) 13000) := h_204
    subst h_204
    refine va_calli (vx_runSW (As := [.ref h, .int (zLo (v >>> (5 &&& 31)) 120), .int (zLo (v >>> (8 &&& 31)) 700), .int (zLo (v >>> (11 &&& 31)) 13000)]) (rest := []) ⟨hx, hb, hml, hown, hts⟩ (c_L_nudge_1 l hst D N0 cA cL E h d z c (zLo (v >>> (5 &&& 31)) 120) (zLo (v >>> (8 &&& 31)) 700) (zLo (v >>> (11 &&& 31)) 13000) hn) (vx_cwSW 4 hts gL_act_L_nudge rfl rfl rfl (by decide +kernel) ⟨Nat.le_of_ble_eq_true rfl, Nat.le_of_ble_eq_true rfl⟩) ⟨zPre.blind, zPre.call hN hP hD hK hE hS⟩ rfl rfl hl.1 rfl (lv_room (Nat.le_of_ble_eq_true rfl)) dL_act_207 ⟨Nat.le_refl _, Nat.le_refl _⟩) hS (fun _ _ h9 => h9) (fun _ h9 => h9) (fun r_207 _ t H locs ht hvm h_207 hB hz1 hk1 hS => ?_)
    have h_207 : r_207 = 0 := h_207
    subst h_207
    obtain ⟨hP, hD⟩ := hB
    rw [ht] at hP
    have hP : va_P D vwCl (wX h d cA z c ++ E) H := hP
    have hD : va_D (zA N0) (wX h d cA z c ++ E) := hD
    refine lv_if_eq (tgt := 217) hx hb dL_act_210 (by decide) (fun _ => ?_) (fun c_210 => absurd c_210 (by decide))
    refine lv_ldc (v := (-99999)) hx hb hown (hts (.constant RL 16 (-99999)) (by decide +kernel)) dL_act_217 ?_
    exact W.iret (v := (-99999)) hx hb hr (fun t ht hW => ⟨⟨_, (), rfl, rfl, ⟨by rw [ht]; exact hP, hD⟩⟩, hS.F ht⟩) hS.2.2 dL_act_219

set_option maxHeartbeats 4000000 in
set_option maxRecDepth 100000 in
theorem c_L_act_rest_e (l : Launch) (D : va_G) (N0 : Nat) (cA cL : ClassId) (E : va_W) (h : Nat) (d : Nat → Nat) (z : S7) (c : C5) (v : Int32) (k : Nat) (hk : zLo v 12 = nI k) (hk12 : k < 12) (ht : zTg k = 220) (ho : ¬ zLo (v >>> (22 &&& 31)) 8 = 0) (hw : zw (zLo (v >>> (4 &&& 31)) 4)) : Met l yL_act wsL_act ({ frames := 10, cells := 0, slots := 0, locals := 300 }) (va_Pc [.ref h, .int v] (zPre D N0 cA cL (wX h d cA z c ++ E))) (va_Qi (fun (rv : Int32) (_ : Unit) => rv = z.1 (zLo (v >>> (4 &&& 31)) 4).toNatClampNeg) (fun _ t => zPost D N0 (wX h d cA ((upd z.1 (zLo (v >>> (4 &&& 31)) 4).toNatClampNeg (-1)), (upd z.2.1 (zLo (v >>> (4 &&& 31)) 4).toNatClampNeg 0), z.2.2.1, z.2.2.2.1, z.2.2.2.2.1, z.2.2.2.2.2.1, z.2.2.2.2.2.2) c ++ E) t) (zA N0)) 0 0 (zA N0) := by
  refine Met.ofW (cc := cL_act) (maxL := 5) (ret := (some .int)) (by decide) rfl ?_
  intro pr e s m ag below meth cd s₁ B hml hv
  obtain ⟨rfl, hN, hP, hD, hK, hE⟩ := hv
  have hx := B.exec
  have hb := B.bytes
  have hr := B.returns
  have hts := atoms_spec (ws := wsL_act) B.pre
  have hown : s.vm.findClass RL = some m.cls := findClass_of_methodNamed B.named
  have hlocks := B.notSynchronized
  have hS : va_S (zA N0) s.heap s.heap [] := va_S.rf
  have hl := lv_entry ([.ref h, .int v]) (n := 5) (Nat.le_of_ble_eq_true rfl)
  rw [lg_entry_eq]
  generalize (lg_sl ([.ref h, .int v]) ++ List.replicate (5 - (lg_sl ([.ref h, .int v])).length) Slot.unset).toArray = ls at hl ⊢
  have hl : lv_has ls 5 [(0, .ref h), (1, .int v)] := hl
  refine lv_iload_n hx hb dL_act_0 rfl (lv_at hl 1 rfl) ?_
  refine lv_bipush (v := 22) hx hb dL_act_1 (by decide) ?_
  refine lv_ishr hx hb dL_act_3 ?_
  refine lv_bipush (v := 8) hx hb dL_act_4 (by decide) ?_
  refine vp_callSi ((va_runS (As := [.int (v >>> (22 &&& 31)), .int 8]) (rest := []) ⟨hx, hb, hml, hown, hts⟩ (c_L_low l (v >>> (22 &&& 31)) 8 (by decide)) (va_cwS 2 hts gL_act_L_low rfl rfl rfl (by decide +kernel) ⟨Nat.le_of_ble_eq_true rfl, Nat.le_of_ble_eq_true rfl⟩) ⟨zT.blind, zT.call⟩ rfl rfl hl.1 rfl (lv_room (Nat.le_of_ble_eq_true rfl)) dL_act_6 ⟨Nat.zero_le _, Nat.zero_le _⟩).run) (fun r_6 h_6 => ?_)
  have h_6 : r_6 = (zLo (v >>> (22 &&& 31)) 8) := h_6
  subst h_6
  refine lv_if_ne (tgt := 16) hx hb dL_act_9 (by decide) (fun c_9 => ?_) (fun c_9 => ?_)
  · refine lv_iconst (v := 0) hx hb dL_act_16 (by decide) ?_
    refine lv_istore_n (lv' := [(2, .int 0), (0, .ref h), (1, .int v)]) hx hb dL_act_17 rfl hl (by decide) rfl (fun ls hl => ?_)
    refine lv_iload_n hx hb dL_act_18 rfl (lv_at hl 2 rfl) ?_
    refine lv_iconst (v := 4) hx hb dL_act_19 (by decide) ?_
    refine lv_ishr hx hb dL_act_20 ?_
    refine lv_iload_n hx hb dL_act_21 rfl (lv_at hl 0 rfl) ?_
    refine lv_if_eq (tgt := 30) hx hb dL_act_22 (by decide) (fun _ => ?_) (fun c_22 => absurd c_22 (by decide))
    refine lv_iconst (v := 4) hx hb dL_act_30 (by decide) ?_
    refine vp_callSi ((va_runS (As := [.int (v >>> (4 &&& 31)), .int 4]) (rest := []) ⟨hx, hb, hml, hown, hts⟩ (c_L_low l (v >>> (4 &&& 31)) 4 (by decide)) (va_cwS 2 hts gL_act_L_low rfl rfl rfl (by decide +kernel) ⟨Nat.le_of_ble_eq_true rfl, Nat.le_of_ble_eq_true rfl⟩) ⟨zT.blind, zT.call⟩ rfl rfl hl.1 rfl (lv_room (Nat.le_of_ble_eq_true rfl)) dL_act_31 ⟨Nat.zero_le _, Nat.zero_le _⟩).run) (fun r_31 h_31 => ?_)
    have h_31 : r_31 = (zLo (v >>> (4 &&& 31)) 4) := h_31
    subst h_31
    refine lv_istore_n (lv' := [(3, .int (zLo (v >>> (4 &&& 31)) 4)), (2, .int 0), (0, .ref h), (1, .int v)]) hx hb dL_act_34 rfl hl (by decide) rfl (fun ls hl => ?_)
    refine lv_iload_n hx hb dL_act_35 rfl (lv_at hl 3 rfl) ?_
    refine lv_bipush (v := 6) hx hb dL_act_36 (by decide) ?_
    refine lv_ishr hx hb dL_act_38 ?_
    refine lv_iload_n hx hb dL_act_39 rfl (lv_at hl 1 rfl) ?_
    refine lv_if_eq (tgt := 49) hx hb dL_act_40 (by decide) (fun _ => ?_) (fun c_40 => absurd c_40 (by decide))
    refine lv_sipush (v := 12001) hx hb dL_act_49 (by decide) ?_
    refine vp_callSi ((va_runS (As := [.int (v >>> (6 &&& 31)), .int 12001]) (rest := []) ⟨hx, hb, hml, hown, hts⟩ (c_L_low l (v >>> (6 &&& 31)) 12001 (by decide)) (va_cwS 2 hts gL_act_L_low rfl rfl rfl (by decide +kernel) ⟨Nat.le_of_ble_eq_true rfl, Nat.le_of_ble_eq_true rfl⟩) ⟨zT.blind, zT.call⟩ rfl rfl hl.1 rfl (lv_room (Nat.le_of_ble_eq_true rfl)) dL_act_52 ⟨Nat.zero_le _, Nat.zero_le _⟩).run) (fun r_52 h_52 => ?_)
    have h_52 : r_52 = (zLo (v >>> (6 &&& 31)) 12001) := h_52
    subst h_52
    refine lv_istore (lv' := [(4, .int (zLo (v >>> (6 &&& 31)) 12001)), (3, .int (zLo (v >>> (4 &&& 31)) 4)), (2, .int 0), (0, .ref h), (1, .int v)]) hx hb dL_act_55 hl (by decide) rfl (fun ls hl => ?_)
    refine lv_iload_n hx hb dL_act_57 rfl (lv_at hl 4 rfl) ?_
    refine lv_bipush (v := 12) hx hb dL_act_58 (by decide) ?_
    refine vp_callSi ((va_runS (As := [.int v, .int 12]) (rest := []) ⟨hx, hb, hml, hown, hts⟩ (c_L_low l v 12 (by decide)) (va_cwS 2 hts gL_act_L_low rfl rfl rfl (by decide +kernel) ⟨Nat.le_of_ble_eq_true rfl, Nat.le_of_ble_eq_true rfl⟩) ⟨zT.blind, zT.call⟩ rfl rfl hl.1 rfl (lv_room (Nat.le_of_ble_eq_true rfl)) dL_act_60 ⟨Nat.zero_le _, Nat.zero_le _⟩).run) (fun r_60 h_60 => ?_)
    have h_60 : r_60 = (zLo v 12) := h_60
    subst h_60
    rw [show ((zLo v 12) : Int32) = (nI k) from hk]
    refine act_sw hx hb hk12 ?_
    rw [ht]
    refine lv_aload_n hx hb dL_act_220 rfl (lv_at hl 3 rfl) ?_
    refine lv_iload_n hx hb dL_act_221 rfl (lv_at hl 1 rfl) ?_
    refine va_calli (vx_runSW (As := [.ref h, .int (zLo (v >>> (4 &&& 31)) 4)]) (rest := []) ⟨hx, hb, hml, hown, hts⟩ (c_L_rest_v l D N0 cA cL E h d z c (zLo (v >>> (4 &&& 31)) 4) hw) (vx_cwSW 2 hts gL_act_L_rest rfl rfl rfl (by decide +kernel) ⟨Nat.le_of_ble_eq_true rfl, Nat.le_of_ble_eq_true rfl⟩) ⟨zPre.blind, zPre.call hN hP hD hK hE hS⟩ rfl rfl hl.1 rfl (lv_room (Nat.le_of_ble_eq_true rfl)) dL_act_222 ⟨Nat.zero_le _, Nat.zero_le _⟩) hS (fun _ _ h9 => h9) (fun _ h9 => h9) (fun r_222 _ t H locs ht hvm h_222 hB hz1 hk1 hS => ?_)
    have h_222 : r_222 = (z.1 (zLo (v >>> (4 &&& 31)) 4).toNatClampNeg) := h_222
    subst h_222
    obtain ⟨hP, hD⟩ := hB
    rw [ht] at hP
    have hP : va_P D vwCl (wX h d cA ((upd z.1 (zLo (v >>> (4 &&& 31)) 4).toNatClampNeg (-1)), (upd z.2.1 (zLo (v >>> (4 &&& 31)) 4).toNatClampNeg 0), z.2.2.1, z.2.2.2.1, z.2.2.2.2.1, z.2.2.2.2.2.1, z.2.2.2.2.2.2) c ++ E) H := hP
    have hD : va_D (zA N0) (wX h d cA ((upd z.1 (zLo (v >>> (4 &&& 31)) 4).toNatClampNeg (-1)), (upd z.2.1 (zLo (v >>> (4 &&& 31)) 4).toNatClampNeg 0), z.2.2.1, z.2.2.2.1, z.2.2.2.2.1, z.2.2.2.2.2.1, z.2.2.2.2.2.2) c ++ E) := hD
    exact W.iret (v := (z.1 (zLo (v >>> (4 &&& 31)) 4).toNatClampNeg)) hx hb hr (fun t ht hW => ⟨⟨_, (), rfl, rfl, ⟨by rw [ht]; exact hP, hD⟩⟩, hS.F ht⟩) hS.2.2 dL_act_225
  · exact absurd c_9 ho

set_option maxHeartbeats 4000000 in
set_option maxRecDepth 100000 in
theorem c_L_act_rest_o (l : Launch) (D : va_G) (N0 : Nat) (cA cL : ClassId) (E : va_W) (h : Nat) (d : Nat → Nat) (z : S7) (c : C5) (v : Int32) (k : Nat) (hk : zLo v 12 = nI k) (hk12 : k < 12) (ht : zTg k = 220) (ho : zLo (v >>> (22 &&& 31)) 8 = 0) (hw : zw (zLo (v >>> (4 &&& 31)) 6)) : Met l yL_act wsL_act ({ frames := 10, cells := 0, slots := 0, locals := 300 }) (va_Pc [.ref h, .int v] (zPre D N0 cA cL (wX h d cA z c ++ E))) (va_Qi (fun (rv : Int32) (_ : Unit) => rv = z.1 (zLo (v >>> (4 &&& 31)) 6).toNatClampNeg) (fun _ t => zPost D N0 (wX h d cA ((upd z.1 (zLo (v >>> (4 &&& 31)) 6).toNatClampNeg (-1)), (upd z.2.1 (zLo (v >>> (4 &&& 31)) 6).toNatClampNeg 0), z.2.2.1, z.2.2.2.1, z.2.2.2.2.1, z.2.2.2.2.2.1, z.2.2.2.2.2.2) c ++ E) t) (zA N0)) 0 0 (zA N0) := by
  refine Met.ofW (cc := cL_act) (maxL := 5) (ret := (some .int)) (by decide) rfl ?_
  intro pr e s m ag below meth cd s₁ B hml hv
  obtain ⟨rfl, hN, hP, hD, hK, hE⟩ := hv
  have hx := B.exec
  have hb := B.bytes
  have hr := B.returns
  have hts := atoms_spec (ws := wsL_act) B.pre
  have hown : s.vm.findClass RL = some m.cls := findClass_of_methodNamed B.named
  have hlocks := B.notSynchronized
  have hS : va_S (zA N0) s.heap s.heap [] := va_S.rf
  have hl := lv_entry ([.ref h, .int v]) (n := 5) (Nat.le_of_ble_eq_true rfl)
  rw [lg_entry_eq]
  generalize (lg_sl ([.ref h, .int v]) ++ List.replicate (5 - (lg_sl ([.ref h, .int v])).length) Slot.unset).toArray = ls at hl ⊢
  have hl : lv_has ls 5 [(0, .ref h), (1, .int v)] := hl
  refine lv_iload_n hx hb dL_act_0 rfl (lv_at hl 1 rfl) ?_
  refine lv_bipush (v := 22) hx hb dL_act_1 (by decide) ?_
  refine lv_ishr hx hb dL_act_3 ?_
  refine lv_bipush (v := 8) hx hb dL_act_4 (by decide) ?_
  refine vp_callSi ((va_runS (As := [.int (v >>> (22 &&& 31)), .int 8]) (rest := []) ⟨hx, hb, hml, hown, hts⟩ (c_L_low l (v >>> (22 &&& 31)) 8 (by decide)) (va_cwS 2 hts gL_act_L_low rfl rfl rfl (by decide +kernel) ⟨Nat.le_of_ble_eq_true rfl, Nat.le_of_ble_eq_true rfl⟩) ⟨zT.blind, zT.call⟩ rfl rfl hl.1 rfl (lv_room (Nat.le_of_ble_eq_true rfl)) dL_act_6 ⟨Nat.zero_le _, Nat.zero_le _⟩).run) (fun r_6 h_6 => ?_)
  have h_6 : r_6 = (zLo (v >>> (22 &&& 31)) 8) := h_6
  subst h_6
  refine lv_if_ne (tgt := 16) hx hb dL_act_9 (by decide) (fun c_9 => ?_) (fun c_9 => ?_)
  · exact absurd ho c_9
  · refine lv_iconst (v := 1) hx hb dL_act_12 (by decide) ?_
    refine lv_goto (tgt := 17) hx hb dL_act_13 (by decide) ?_
    refine lv_istore_n (lv' := [(2, .int 1), (0, .ref h), (1, .int v)]) hx hb dL_act_17 rfl hl (by decide) rfl (fun ls hl => ?_)
    refine lv_iload_n hx hb dL_act_18 rfl (lv_at hl 2 rfl) ?_
    refine lv_iconst (v := 4) hx hb dL_act_19 (by decide) ?_
    refine lv_ishr hx hb dL_act_20 ?_
    refine lv_iload_n hx hb dL_act_21 rfl (lv_at hl 0 rfl) ?_
    refine lv_if_eq (tgt := 30) hx hb dL_act_22 (by decide) (fun c_22 => absurd c_22 (by decide)) (fun _ => ?_)
    refine lv_bipush (v := 6) hx hb dL_act_25 (by decide) ?_
    refine lv_goto (tgt := 31) hx hb dL_act_27 (by decide) ?_
    refine vp_callSi ((va_runS (As := [.int (v >>> (4 &&& 31)), .int 6]) (rest := []) ⟨hx, hb, hml, hown, hts⟩ (c_L_low l (v >>> (4 &&& 31)) 6 (by decide)) (va_cwS 2 hts gL_act_L_low rfl rfl rfl (by decide +kernel) ⟨Nat.le_of_ble_eq_true rfl, Nat.le_of_ble_eq_true rfl⟩) ⟨zT.blind, zT.call⟩ rfl rfl hl.1 rfl (lv_room (Nat.le_of_ble_eq_true rfl)) dL_act_31 ⟨Nat.zero_le _, Nat.zero_le _⟩).run) (fun r_31 h_31 => ?_)
    have h_31 : r_31 = (zLo (v >>> (4 &&& 31)) 6) := h_31
    subst h_31
    refine lv_istore_n (lv' := [(3, .int (zLo (v >>> (4 &&& 31)) 6)), (2, .int 1), (0, .ref h), (1, .int v)]) hx hb dL_act_34 rfl hl (by decide) rfl (fun ls hl => ?_)
    refine lv_iload_n hx hb dL_act_35 rfl (lv_at hl 3 rfl) ?_
    refine lv_bipush (v := 6) hx hb dL_act_36 (by decide) ?_
    refine lv_ishr hx hb dL_act_38 ?_
    refine lv_iload_n hx hb dL_act_39 rfl (lv_at hl 1 rfl) ?_
    refine lv_if_eq (tgt := 49) hx hb dL_act_40 (by decide) (fun c_40 => absurd c_40 (by decide)) (fun _ => ?_)
    refine lv_sipush (v := 13000) hx hb dL_act_43 (by decide) ?_
    refine lv_goto (tgt := 52) hx hb dL_act_46 (by decide) ?_
    refine vp_callSi ((va_runS (As := [.int (v >>> (6 &&& 31)), .int 13000]) (rest := []) ⟨hx, hb, hml, hown, hts⟩ (c_L_low l (v >>> (6 &&& 31)) 13000 (by decide)) (va_cwS 2 hts gL_act_L_low rfl rfl rfl (by decide +kernel) ⟨Nat.le_of_ble_eq_true rfl, Nat.le_of_ble_eq_true rfl⟩) ⟨zT.blind, zT.call⟩ rfl rfl hl.1 rfl (lv_room (Nat.le_of_ble_eq_true rfl)) dL_act_52 ⟨Nat.zero_le _, Nat.zero_le _⟩).run) (fun r_52 h_52 => ?_)
    have h_52 : r_52 = (zLo (v >>> (6 &&& 31)) 13000) := h_52
    subst h_52
    refine lv_istore (lv' := [(4, .int (zLo (v >>> (6 &&& 31)) 13000)), (3, .int (zLo (v >>> (4 &&& 31)) 6)), (2, .int 1), (0, .ref h), (1, .int v)]) hx hb dL_act_55 hl (by decide) rfl (fun ls hl => ?_)
    refine lv_iload_n hx hb dL_act_57 rfl (lv_at hl 4 rfl) ?_
    refine lv_bipush (v := 12) hx hb dL_act_58 (by decide) ?_
    refine vp_callSi ((va_runS (As := [.int v, .int 12]) (rest := []) ⟨hx, hb, hml, hown, hts⟩ (c_L_low l v 12 (by decide)) (va_cwS 2 hts gL_act_L_low rfl rfl rfl (by decide +kernel) ⟨Nat.le_of_ble_eq_true rfl, Nat.le_of_ble_eq_true rfl⟩) ⟨zT.blind, zT.call⟩ rfl rfl hl.1 rfl (lv_room (Nat.le_of_ble_eq_true rfl)) dL_act_60 ⟨Nat.zero_le _, Nat.zero_le _⟩).run) (fun r_60 h_60 => ?_)
    have h_60 : r_60 = (zLo v 12) := h_60
    subst h_60
    rw [show ((zLo v 12) : Int32) = (nI k) from hk]
    refine act_sw hx hb hk12 ?_
    rw [ht]
    refine lv_aload_n hx hb dL_act_220 rfl (lv_at hl 3 rfl) ?_
    refine lv_iload_n hx hb dL_act_221 rfl (lv_at hl 1 rfl) ?_
    refine va_calli (vx_runSW (As := [.ref h, .int (zLo (v >>> (4 &&& 31)) 6)]) (rest := []) ⟨hx, hb, hml, hown, hts⟩ (c_L_rest_v l D N0 cA cL E h d z c (zLo (v >>> (4 &&& 31)) 6) hw) (vx_cwSW 2 hts gL_act_L_rest rfl rfl rfl (by decide +kernel) ⟨Nat.le_of_ble_eq_true rfl, Nat.le_of_ble_eq_true rfl⟩) ⟨zPre.blind, zPre.call hN hP hD hK hE hS⟩ rfl rfl hl.1 rfl (lv_room (Nat.le_of_ble_eq_true rfl)) dL_act_222 ⟨Nat.zero_le _, Nat.zero_le _⟩) hS (fun _ _ h9 => h9) (fun _ h9 => h9) (fun r_222 _ t H locs ht hvm h_222 hB hz1 hk1 hS => ?_)
    have h_222 : r_222 = (z.1 (zLo (v >>> (4 &&& 31)) 6).toNatClampNeg) := h_222
    subst h_222
    obtain ⟨hP, hD⟩ := hB
    rw [ht] at hP
    have hP : va_P D vwCl (wX h d cA ((upd z.1 (zLo (v >>> (4 &&& 31)) 6).toNatClampNeg (-1)), (upd z.2.1 (zLo (v >>> (4 &&& 31)) 6).toNatClampNeg 0), z.2.2.1, z.2.2.2.1, z.2.2.2.2.1, z.2.2.2.2.2.1, z.2.2.2.2.2.2) c ++ E) H := hP
    have hD : va_D (zA N0) (wX h d cA ((upd z.1 (zLo (v >>> (4 &&& 31)) 6).toNatClampNeg (-1)), (upd z.2.1 (zLo (v >>> (4 &&& 31)) 6).toNatClampNeg 0), z.2.2.1, z.2.2.2.1, z.2.2.2.2.1, z.2.2.2.2.2.1, z.2.2.2.2.2.2) c ++ E) := hD
    exact W.iret (v := (z.1 (zLo (v >>> (4 &&& 31)) 6).toNatClampNeg)) hx hb hr (fun t ht hW => ⟨⟨_, (), rfl, rfl, ⟨by rw [ht]; exact hP, hD⟩⟩, hS.F ht⟩) hS.2.2 dL_act_225

set_option maxHeartbeats 4000000 in
set_option maxRecDepth 100000 in
theorem c_L_act_rest_x (l : Launch) (hst : l.stackTraces = false) (D : va_G) (N0 : Nat) (cA cL : ClassId) (E : va_W) (h : Nat) (d : Nat → Nat) (z : S7) (c : C5) (v : Int32) (k : Nat) (hk : zLo v 12 = nI k) (hk12 : k < 12) (ht : zTg k = 220) (ho : zLo (v >>> (22 &&& 31)) 8 = 0) (hw : ¬ zw (zLo (v >>> (4 &&& 31)) 6)) : Met l yL_act wsL_act ({ frames := 10, cells := 1, slots := 6, locals := 300 }) (va_Pc [.ref h, .int v] (zPre D N0 cA cL (wX h d cA z c ++ E))) (va_Qi (fun (rv : Int32) (_ : Unit) => rv = (-99999)) (fun _ t => zPost D N0 (wX h d cA z c ++ E) t) (zA N0)) 1 6 (zA N0) := by
  refine Met.ofW (cc := cL_act) (maxL := 5) (ret := (some .int)) (by decide) rfl ?_
  intro pr e s m ag below meth cd s₁ B hml hv
  obtain ⟨rfl, hN, hP, hD, hK, hE⟩ := hv
  have hx := B.exec
  have hb := B.bytes
  have hr := B.returns
  have hts := atoms_spec (ws := wsL_act) B.pre
  have hown : s.vm.findClass RL = some m.cls := findClass_of_methodNamed B.named
  have hlocks := B.notSynchronized
  have hS : va_S (zA N0) s.heap s.heap [] := va_S.rf
  have hl := lv_entry ([.ref h, .int v]) (n := 5) (Nat.le_of_ble_eq_true rfl)
  rw [lg_entry_eq]
  generalize (lg_sl ([.ref h, .int v]) ++ List.replicate (5 - (lg_sl ([.ref h, .int v])).length) Slot.unset).toArray = ls at hl ⊢
  have hl : lv_has ls 5 [(0, .ref h), (1, .int v)] := hl
  refine lv_iload_n hx hb dL_act_0 rfl (lv_at hl 1 rfl) ?_
  refine lv_bipush (v := 22) hx hb dL_act_1 (by decide) ?_
  refine lv_ishr hx hb dL_act_3 ?_
  refine lv_bipush (v := 8) hx hb dL_act_4 (by decide) ?_
  refine vp_callSi ((va_runS (As := [.int (v >>> (22 &&& 31)), .int 8]) (rest := []) ⟨hx, hb, hml, hown, hts⟩ (c_L_low l (v >>> (22 &&& 31)) 8 (by decide)) (va_cwS 2 hts gL_act_L_low rfl rfl rfl (by decide +kernel) ⟨Nat.le_of_ble_eq_true rfl, Nat.le_of_ble_eq_true rfl⟩) ⟨zT.blind, zT.call⟩ rfl rfl hl.1 rfl (lv_room (Nat.le_of_ble_eq_true rfl)) dL_act_6 ⟨Nat.zero_le _, Nat.zero_le _⟩).run) (fun r_6 h_6 => ?_)
  have h_6 : r_6 = (zLo (v >>> (22 &&& 31)) 8) := h_6
  subst h_6
  refine lv_if_ne (tgt := 16) hx hb dL_act_9 (by decide) (fun c_9 => ?_) (fun c_9 => ?_)
  · exact absurd ho c_9
  · refine lv_iconst (v := 1) hx hb dL_act_12 (by decide) ?_
    refine lv_goto (tgt := 17) hx hb dL_act_13 (by decide) ?_
    refine lv_istore_n (lv' := [(2, .int 1), (0, .ref h), (1, .int v)]) hx hb dL_act_17 rfl hl (by decide) rfl (fun ls hl => ?_)
    refine lv_iload_n hx hb dL_act_18 rfl (lv_at hl 2 rfl) ?_
    refine lv_iconst (v := 4) hx hb dL_act_19 (by decide) ?_
    refine lv_ishr hx hb dL_act_20 ?_
    refine lv_iload_n hx hb dL_act_21 rfl (lv_at hl 0 rfl) ?_
    refine lv_if_eq (tgt := 30) hx hb dL_act_22 (by decide) (fun c_22 => absurd c_22 (by decide)) (fun _ => ?_)
    refine lv_bipush (v := 6) hx hb dL_act_25 (by decide) ?_
    refine lv_goto (tgt := 31) hx hb dL_act_27 (by decide) ?_
    refine vp_callSi ((va_runS (As := [.int (v >>> (4 &&& 31)), .int 6]) (rest := []) ⟨hx, hb, hml, hown, hts⟩ (c_L_low l (v >>> (4 &&& 31)) 6 (by decide)) (va_cwS 2 hts gL_act_L_low rfl rfl rfl (by decide +kernel) ⟨Nat.le_of_ble_eq_true rfl, Nat.le_of_ble_eq_true rfl⟩) ⟨zT.blind, zT.call⟩ rfl rfl hl.1 rfl (lv_room (Nat.le_of_ble_eq_true rfl)) dL_act_31 ⟨Nat.zero_le _, Nat.zero_le _⟩).run) (fun r_31 h_31 => ?_)
    have h_31 : r_31 = (zLo (v >>> (4 &&& 31)) 6) := h_31
    subst h_31
    refine lv_istore_n (lv' := [(3, .int (zLo (v >>> (4 &&& 31)) 6)), (2, .int 1), (0, .ref h), (1, .int v)]) hx hb dL_act_34 rfl hl (by decide) rfl (fun ls hl => ?_)
    refine lv_iload_n hx hb dL_act_35 rfl (lv_at hl 3 rfl) ?_
    refine lv_bipush (v := 6) hx hb dL_act_36 (by decide) ?_
    refine lv_ishr hx hb dL_act_38 ?_
    refine lv_iload_n hx hb dL_act_39 rfl (lv_at hl 1 rfl) ?_
    refine lv_if_eq (tgt := 49) hx hb dL_act_40 (by decide) (fun c_40 => absurd c_40 (by decide)) (fun _ => ?_)
    refine lv_sipush (v := 13000) hx hb dL_act_43 (by decide) ?_
    refine lv_goto (tgt := 52) hx hb dL_act_46 (by decide) ?_
    refine vp_callSi ((va_runS (As := [.int (v >>> (6 &&& 31)), .int 13000]) (rest := []) ⟨hx, hb, hml, hown, hts⟩ (c_L_low l (v >>> (6 &&& 31)) 13000 (by decide)) (va_cwS 2 hts gL_act_L_low rfl rfl rfl (by decide +kernel) ⟨Nat.le_of_ble_eq_true rfl, Nat.le_of_ble_eq_true rfl⟩) ⟨zT.blind, zT.call⟩ rfl rfl hl.1 rfl (lv_room (Nat.le_of_ble_eq_true rfl)) dL_act_52 ⟨Nat.zero_le _, Nat.zero_le _⟩).run) (fun r_52 h_52 => ?_)
    have h_52 : r_52 = (zLo (v >>> (6 &&& 31)) 13000) := h_52
    subst h_52
    refine lv_istore (lv' := [(4, .int (zLo (v >>> (6 &&& 31)) 13000)), (3, .int (zLo (v >>> (4 &&& 31)) 6)), (2, .int 1), (0, .ref h), (1, .int v)]) hx hb dL_act_55 hl (by decide) rfl (fun ls hl => ?_)
    refine lv_iload_n hx hb dL_act_57 rfl (lv_at hl 4 rfl) ?_
    refine lv_bipush (v := 12) hx hb dL_act_58 (by decide) ?_
    refine vp_callSi ((va_runS (As := [.int v, .int 12]) (rest := []) ⟨hx, hb, hml, hown, hts⟩ (c_L_low l v 12 (by decide)) (va_cwS 2 hts gL_act_L_low rfl rfl rfl (by decide +kernel) ⟨Nat.le_of_ble_eq_true rfl, Nat.le_of_ble_eq_true rfl⟩) ⟨zT.blind, zT.call⟩ rfl rfl hl.1 rfl (lv_room (Nat.le_of_ble_eq_true rfl)) dL_act_60 ⟨Nat.zero_le _, Nat.zero_le _⟩).run) (fun r_60 h_60 => ?_)
    have h_60 : r_60 = (zLo v 12) := h_60
    subst h_60
    rw [show ((zLo v 12) : Int32) = (nI k) from hk]
    refine act_sw hx hb hk12 ?_
    rw [ht]
    refine lv_aload_n hx hb dL_act_220 rfl (lv_at hl 3 rfl) ?_
    refine lv_iload_n hx hb dL_act_221 rfl (lv_at hl 1 rfl) ?_
    refine va_calli (vx_runSW (As := [.ref h, .int (zLo (v >>> (4 &&& 31)) 6)]) (rest := []) ⟨hx, hb, hml, hown, hts⟩ (c_L_rest_1 l hst D N0 cA cL E h d z c (zLo (v >>> (4 &&& 31)) 6) hw) (vx_cwSW 2 hts gL_act_L_rest rfl rfl rfl (by decide +kernel) ⟨Nat.le_of_ble_eq_true rfl, Nat.le_of_ble_eq_true rfl⟩) ⟨zPre.blind, zPre.call hN hP hD hK hE hS⟩ rfl rfl hl.1 rfl (lv_room (Nat.le_of_ble_eq_true rfl)) dL_act_222 ⟨Nat.le_refl _, Nat.le_refl _⟩) hS (fun _ _ h9 => h9) (fun _ h9 => h9) (fun r_222 _ t H locs ht hvm h_222 hB hz1 hk1 hS => ?_)
    have h_222 : r_222 = (-99999) := h_222
    subst h_222
    obtain ⟨hP, hD⟩ := hB
    rw [ht] at hP
    have hP : va_P D vwCl (wX h d cA z c ++ E) H := hP
    have hD : va_D (zA N0) (wX h d cA z c ++ E) := hD
    exact W.iret (v := (-99999)) hx hb hr (fun t ht hW => ⟨⟨_, (), rfl, rfl, ⟨by rw [ht]; exact hP, hD⟩⟩, hS.F ht⟩) hS.2.2 dL_act_225

set_option maxHeartbeats 4000000 in
set_option maxRecDepth 100000 in
theorem c_L_act_slide_e (l : Launch) (D : va_G) (N0 : Nat) (cA cL : ClassId) (E : va_W) (h : Nat) (d : Nat → Nat) (z : S7) (c : C5) (v : Int32) (k : Nat) (hk : zLo v 12 = nI k) (hk12 : k < 12) (ht : zTg k = 226) (ho : ¬ zLo (v >>> (22 &&& 31)) 8 = 0) (f : Nat) (ef : ((zLo (v >>> (13 &&& 31)) 49) + 2) = nI f) (hw : zw (zLo (v >>> (4 &&& 31)) 4)) (ha : zp (zLo (v >>> (6 &&& 31)) 12001)) (hb2 : zp (zLo (v >>> (9 &&& 31)) 12001)) (hf : 2 ≤ f) (hf2 : f ≤ 50) (hc : okC c) : Met l yL_act wsL_act ({ frames := 10, cells := 0, slots := 0, locals := 300 }) (va_Pc [.ref h, .int v] (zPre D N0 cA cL (wX h d cA z c ++ E))) (va_Qi (fun (rv : Int32) (_ : Unit) => rv = (zSl c (zLo (v >>> (4 &&& 31)) 4).toNatClampNeg (zLo (v >>> (6 &&& 31)) 12001) (zLo (v >>> (9 &&& 31)) 12001) f z f).2.2.2.1 (zLo (v >>> (4 &&& 31)) 4).toNatClampNeg - z.2.2.2.1 (zLo (v >>> (4 &&& 31)) 4).toNatClampNeg) (fun _ t => zPost D N0 (wX h d cA (zSl c (zLo (v >>> (4 &&& 31)) 4).toNatClampNeg (zLo (v >>> (6 &&& 31)) 12001) (zLo (v >>> (9 &&& 31)) 12001) f z f) c ++ E) t) (zA N0)) 0 0 (zA N0) := by
  refine Met.ofW (cc := cL_act) (maxL := 5) (ret := (some .int)) (by decide) rfl ?_
  intro pr e s m ag below meth cd s₁ B hml hv
  obtain ⟨rfl, hN, hP, hD, hK, hE⟩ := hv
  have hx := B.exec
  have hb := B.bytes
  have hr := B.returns
  have hts := atoms_spec (ws := wsL_act) B.pre
  have hown : s.vm.findClass RL = some m.cls := findClass_of_methodNamed B.named
  have hlocks := B.notSynchronized
  have hS : va_S (zA N0) s.heap s.heap [] := va_S.rf
  have hl := lv_entry ([.ref h, .int v]) (n := 5) (Nat.le_of_ble_eq_true rfl)
  rw [lg_entry_eq]
  generalize (lg_sl ([.ref h, .int v]) ++ List.replicate (5 - (lg_sl ([.ref h, .int v])).length) Slot.unset).toArray = ls at hl ⊢
  have hl : lv_has ls 5 [(0, .ref h), (1, .int v)] := hl
  refine lv_iload_n hx hb dL_act_0 rfl (lv_at hl 1 rfl) ?_
  refine lv_bipush (v := 22) hx hb dL_act_1 (by decide) ?_
  refine lv_ishr hx hb dL_act_3 ?_
  refine lv_bipush (v := 8) hx hb dL_act_4 (by decide) ?_
  refine vp_callSi ((va_runS (As := [.int (v >>> (22 &&& 31)), .int 8]) (rest := []) ⟨hx, hb, hml, hown, hts⟩ (c_L_low l (v >>> (22 &&& 31)) 8 (by decide)) (va_cwS 2 hts gL_act_L_low rfl rfl rfl (by decide +kernel) ⟨Nat.le_of_ble_eq_true rfl, Nat.le_of_ble_eq_true rfl⟩) ⟨zT.blind, zT.call⟩ rfl rfl hl.1 rfl (lv_room (Nat.le_of_ble_eq_true rfl)) dL_act_6 ⟨Nat.zero_le _, Nat.zero_le _⟩).run) (fun r_6 h_6 => ?_)
  have h_6 : r_6 = (zLo (v >>> (22 &&& 31)) 8) := h_6
  subst h_6
  refine lv_if_ne (tgt := 16) hx hb dL_act_9 (by decide) (fun c_9 => ?_) (fun c_9 => ?_)
  · refine lv_iconst (v := 0) hx hb dL_act_16 (by decide) ?_
    refine lv_istore_n (lv' := [(2, .int 0), (0, .ref h), (1, .int v)]) hx hb dL_act_17 rfl hl (by decide) rfl (fun ls hl => ?_)
    refine lv_iload_n hx hb dL_act_18 rfl (lv_at hl 2 rfl) ?_
    refine lv_iconst (v := 4) hx hb dL_act_19 (by decide) ?_
    refine lv_ishr hx hb dL_act_20 ?_
    refine lv_iload_n hx hb dL_act_21 rfl (lv_at hl 0 rfl) ?_
    refine lv_if_eq (tgt := 30) hx hb dL_act_22 (by decide) (fun _ => ?_) (fun c_22 => absurd c_22 (by decide))
    refine lv_iconst (v := 4) hx hb dL_act_30 (by decide) ?_
    refine vp_callSi ((va_runS (As := [.int (v >>> (4 &&& 31)), .int 4]) (rest := []) ⟨hx, hb, hml, hown, hts⟩ (c_L_low l (v >>> (4 &&& 31)) 4 (by decide)) (va_cwS 2 hts gL_act_L_low rfl rfl rfl (by decide +kernel) ⟨Nat.le_of_ble_eq_true rfl, Nat.le_of_ble_eq_true rfl⟩) ⟨zT.blind, zT.call⟩ rfl rfl hl.1 rfl (lv_room (Nat.le_of_ble_eq_true rfl)) dL_act_31 ⟨Nat.zero_le _, Nat.zero_le _⟩).run) (fun r_31 h_31 => ?_)
    have h_31 : r_31 = (zLo (v >>> (4 &&& 31)) 4) := h_31
    subst h_31
    refine lv_istore_n (lv' := [(3, .int (zLo (v >>> (4 &&& 31)) 4)), (2, .int 0), (0, .ref h), (1, .int v)]) hx hb dL_act_34 rfl hl (by decide) rfl (fun ls hl => ?_)
    refine lv_iload_n hx hb dL_act_35 rfl (lv_at hl 3 rfl) ?_
    refine lv_bipush (v := 6) hx hb dL_act_36 (by decide) ?_
    refine lv_ishr hx hb dL_act_38 ?_
    refine lv_iload_n hx hb dL_act_39 rfl (lv_at hl 1 rfl) ?_
    refine lv_if_eq (tgt := 49) hx hb dL_act_40 (by decide) (fun _ => ?_) (fun c_40 => absurd c_40 (by decide))
    refine lv_sipush (v := 12001) hx hb dL_act_49 (by decide) ?_
    refine vp_callSi ((va_runS (As := [.int (v >>> (6 &&& 31)), .int 12001]) (rest := []) ⟨hx, hb, hml, hown, hts⟩ (c_L_low l (v >>> (6 &&& 31)) 12001 (by decide)) (va_cwS 2 hts gL_act_L_low rfl rfl rfl (by decide +kernel) ⟨Nat.le_of_ble_eq_true rfl, Nat.le_of_ble_eq_true rfl⟩) ⟨zT.blind, zT.call⟩ rfl rfl hl.1 rfl (lv_room (Nat.le_of_ble_eq_true rfl)) dL_act_52 ⟨Nat.zero_le _, Nat.zero_le _⟩).run) (fun r_52 h_52 => ?_)
    have h_52 : r_52 = (zLo (v >>> (6 &&& 31)) 12001) := h_52
    subst h_52
    refine lv_istore (lv' := [(4, .int (zLo (v >>> (6 &&& 31)) 12001)), (3, .int (zLo (v >>> (4 &&& 31)) 4)), (2, .int 0), (0, .ref h), (1, .int v)]) hx hb dL_act_55 hl (by decide) rfl (fun ls hl => ?_)
    refine lv_iload_n hx hb dL_act_57 rfl (lv_at hl 4 rfl) ?_
    refine lv_bipush (v := 12) hx hb dL_act_58 (by decide) ?_
    refine vp_callSi ((va_runS (As := [.int v, .int 12]) (rest := []) ⟨hx, hb, hml, hown, hts⟩ (c_L_low l v 12 (by decide)) (va_cwS 2 hts gL_act_L_low rfl rfl rfl (by decide +kernel) ⟨Nat.le_of_ble_eq_true rfl, Nat.le_of_ble_eq_true rfl⟩) ⟨zT.blind, zT.call⟩ rfl rfl hl.1 rfl (lv_room (Nat.le_of_ble_eq_true rfl)) dL_act_60 ⟨Nat.zero_le _, Nat.zero_le _⟩).run) (fun r_60 h_60 => ?_)
    have h_60 : r_60 = (zLo v 12) := h_60
    subst h_60
    rw [show ((zLo v 12) : Int32) = (nI k) from hk]
    refine act_sw hx hb hk12 ?_
    rw [ht]
    refine lv_aload_n hx hb dL_act_226 rfl (lv_at hl 3 rfl) ?_
    refine lv_iload_n hx hb dL_act_227 rfl (lv_at hl 1 rfl) ?_
    refine lv_iload hx hb dL_act_228 (lv_at hl 0 rfl) ?_
    refine lv_iload_n hx hb dL_act_230 rfl (lv_at hl 4 rfl) ?_
    refine lv_bipush (v := 9) hx hb dL_act_231 (by decide) ?_
    refine lv_ishr hx hb dL_act_233 ?_
    refine lv_iload_n hx hb dL_act_234 rfl (lv_at hl 2 rfl) ?_
    refine lv_if_eq (tgt := 244) hx hb dL_act_235 (by decide) (fun _ => ?_) (fun c_235 => absurd c_235 (by decide))
    refine lv_sipush (v := 12001) hx hb dL_act_244 (by decide) ?_
    refine vp_callSi ((va_runS (As := [.int (v >>> (9 &&& 31)), .int 12001]) (rest := [.int (zLo (v >>> (6 &&& 31)) 12001), .int (zLo (v >>> (4 &&& 31)) 4), .ref h]) ⟨hx, hb, hml, hown, hts⟩ (c_L_low l (v >>> (9 &&& 31)) 12001 (by decide)) (va_cwS 2 hts gL_act_L_low rfl rfl rfl (by decide +kernel) ⟨Nat.le_of_ble_eq_true rfl, Nat.le_of_ble_eq_true rfl⟩) ⟨zT.blind, zT.call⟩ rfl rfl hl.1 rfl (lv_room (Nat.le_of_ble_eq_true rfl)) dL_act_247 ⟨Nat.zero_le _, Nat.zero_le _⟩).run) (fun r_247 h_247 => ?_)
    have h_247 : r_247 = (zLo (v >>> (9 &&& 31)) 12001) := h_247
    subst h_247
    refine lv_iload_n hx hb dL_act_250 rfl (lv_at hl 4 rfl) ?_
    refine lv_bipush (v := 13) hx hb dL_act_251 (by decide) ?_
    refine lv_ishr hx hb dL_act_253 ?_
    refine lv_iload_n hx hb dL_act_254 rfl (lv_at hl 2 rfl) ?_
    refine lv_if_eq (tgt := 263) hx hb dL_act_255 (by decide) (fun _ => ?_) (fun c_255 => absurd c_255 (by decide))
    refine lv_bipush (v := 49) hx hb dL_act_263 (by decide) ?_
    refine vp_callSi ((va_runS (As := [.int (v >>> (13 &&& 31)), .int 49]) (rest := [.int (zLo (v >>> (9 &&& 31)) 12001), .int (zLo (v >>> (6 &&& 31)) 12001), .int (zLo (v >>> (4 &&& 31)) 4), .ref h]) ⟨hx, hb, hml, hown, hts⟩ (c_L_low l (v >>> (13 &&& 31)) 49 (by decide)) (va_cwS 2 hts gL_act_L_low rfl rfl rfl (by decide +kernel) ⟨Nat.le_of_ble_eq_true rfl, Nat.le_of_ble_eq_true rfl⟩) ⟨zT.blind, zT.call⟩ rfl rfl hl.1 rfl (lv_room (Nat.le_of_ble_eq_true rfl)) dL_act_265 ⟨Nat.zero_le _, Nat.zero_le _⟩).run) (fun r_265 h_265 => ?_)
    have h_265 : r_265 = (zLo (v >>> (13 &&& 31)) 49) := h_265
    subst h_265
    refine lv_iload_n hx hb dL_act_268 rfl (lv_at hl 2 rfl) ?_
    refine lv_if_eq (tgt := 276) hx hb dL_act_269 (by decide) (fun _ => ?_) (fun c_269 => absurd c_269 (by decide))
    refine lv_iconst (v := 2) hx hb dL_act_276 (by decide) ?_
    refine lv_iadd hx hb dL_act_277 ?_
    rw [show (((zLo (v >>> (13 &&& 31)) 49) + 2) : Int32) = (nI f) from ef]
    refine va_calli (vx_runSW (As := [.ref h, .int (zLo (v >>> (4 &&& 31)) 4), .int (zLo (v >>> (6 &&& 31)) 12001), .int (zLo (v >>> (9 &&& 31)) 12001), .int (nI f)]) (rest := []) ⟨hx, hb, hml, hown, hts⟩ (c_L_slide_v l D N0 cA cL E h d z c (zLo (v >>> (4 &&& 31)) 4) (zLo (v >>> (6 &&& 31)) 12001) (zLo (v >>> (9 &&& 31)) 12001) f hc hw ha hb2 hf hf2) (vx_cwSW 5 hts gL_act_L_slide rfl rfl rfl (by decide +kernel) ⟨Nat.le_of_ble_eq_true rfl, Nat.le_of_ble_eq_true rfl⟩) ⟨zPre.blind, zPre.call hN hP hD hK hE hS⟩ rfl rfl hl.1 rfl (lv_room (Nat.le_of_ble_eq_true rfl)) dL_act_278 ⟨Nat.zero_le _, Nat.zero_le _⟩) hS (fun _ _ h9 => h9) (fun _ h9 => h9) (fun r_278 _ t H locs ht hvm h_278 hB hz1 hk1 hS => ?_)
    have h_278 : r_278 = ((zSl c (zLo (v >>> (4 &&& 31)) 4).toNatClampNeg (zLo (v >>> (6 &&& 31)) 12001) (zLo (v >>> (9 &&& 31)) 12001) f z f).2.2.2.1 (zLo (v >>> (4 &&& 31)) 4).toNatClampNeg - z.2.2.2.1 (zLo (v >>> (4 &&& 31)) 4).toNatClampNeg) := h_278
    subst h_278
    obtain ⟨hP, hD⟩ := hB
    rw [ht] at hP
    have hP : va_P D vwCl (wX h d cA (zSl c (zLo (v >>> (4 &&& 31)) 4).toNatClampNeg (zLo (v >>> (6 &&& 31)) 12001) (zLo (v >>> (9 &&& 31)) 12001) f z f) c ++ E) H := hP
    have hD : va_D (zA N0) (wX h d cA (zSl c (zLo (v >>> (4 &&& 31)) 4).toNatClampNeg (zLo (v >>> (6 &&& 31)) 12001) (zLo (v >>> (9 &&& 31)) 12001) f z f) c ++ E) := hD
    exact W.iret (v := ((zSl c (zLo (v >>> (4 &&& 31)) 4).toNatClampNeg (zLo (v >>> (6 &&& 31)) 12001) (zLo (v >>> (9 &&& 31)) 12001) f z f).2.2.2.1 (zLo (v >>> (4 &&& 31)) 4).toNatClampNeg - z.2.2.2.1 (zLo (v >>> (4 &&& 31)) 4).toNatClampNeg)) hx hb hr (fun t ht hW => ⟨⟨_, (), rfl, rfl, ⟨by rw [ht]; exact hP, hD⟩⟩, hS.F ht⟩) hS.2.2 dL_act_281
  · exact absurd c_9 ho

set_option maxHeartbeats 4000000 in
set_option maxRecDepth 100000 in
theorem c_L_act_slide_o (l : Launch) (D : va_G) (N0 : Nat) (cA cL : ClassId) (E : va_W) (h : Nat) (d : Nat → Nat) (z : S7) (c : C5) (v : Int32) (k : Nat) (hk : zLo v 12 = nI k) (hk12 : k < 12) (ht : zTg k = 226) (ho : zLo (v >>> (22 &&& 31)) 8 = 0) (f : Nat) (ef : ((zLo (v >>> (13 &&& 31)) 55) + 0) = nI f) (hw : zw (zLo (v >>> (4 &&& 31)) 6)) (ha : zp (zLo (v >>> (6 &&& 31)) 13000)) (hb2 : zp (zLo (v >>> (9 &&& 31)) 13000)) (hf : 2 ≤ f) (hf2 : f ≤ 50) (hc : okC c) : Met l yL_act wsL_act ({ frames := 10, cells := 0, slots := 0, locals := 300 }) (va_Pc [.ref h, .int v] (zPre D N0 cA cL (wX h d cA z c ++ E))) (va_Qi (fun (rv : Int32) (_ : Unit) => rv = (zSl c (zLo (v >>> (4 &&& 31)) 6).toNatClampNeg (zLo (v >>> (6 &&& 31)) 13000) (zLo (v >>> (9 &&& 31)) 13000) f z f).2.2.2.1 (zLo (v >>> (4 &&& 31)) 6).toNatClampNeg - z.2.2.2.1 (zLo (v >>> (4 &&& 31)) 6).toNatClampNeg) (fun _ t => zPost D N0 (wX h d cA (zSl c (zLo (v >>> (4 &&& 31)) 6).toNatClampNeg (zLo (v >>> (6 &&& 31)) 13000) (zLo (v >>> (9 &&& 31)) 13000) f z f) c ++ E) t) (zA N0)) 0 0 (zA N0) := by
  refine Met.ofW (cc := cL_act) (maxL := 5) (ret := (some .int)) (by decide) rfl ?_
  intro pr e s m ag below meth cd s₁ B hml hv
  obtain ⟨rfl, hN, hP, hD, hK, hE⟩ := hv
  have hx := B.exec
  have hb := B.bytes
  have hr := B.returns
  have hts := atoms_spec (ws := wsL_act) B.pre
  have hown : s.vm.findClass RL = some m.cls := findClass_of_methodNamed B.named
  have hlocks := B.notSynchronized
  have hS : va_S (zA N0) s.heap s.heap [] := va_S.rf
  have hl := lv_entry ([.ref h, .int v]) (n := 5) (Nat.le_of_ble_eq_true rfl)
  rw [lg_entry_eq]
  generalize (lg_sl ([.ref h, .int v]) ++ List.replicate (5 - (lg_sl ([.ref h, .int v])).length) Slot.unset).toArray = ls at hl ⊢
  have hl : lv_has ls 5 [(0, .ref h), (1, .int v)] := hl
  refine lv_iload_n hx hb dL_act_0 rfl (lv_at hl 1 rfl) ?_
  refine lv_bipush (v := 22) hx hb dL_act_1 (by decide) ?_
  refine lv_ishr hx hb dL_act_3 ?_
  refine lv_bipush (v := 8) hx hb dL_act_4 (by decide) ?_
  refine vp_callSi ((va_runS (As := [.int (v >>> (22 &&& 31)), .int 8]) (rest := []) ⟨hx, hb, hml, hown, hts⟩ (c_L_low l (v >>> (22 &&& 31)) 8 (by decide)) (va_cwS 2 hts gL_act_L_low rfl rfl rfl (by decide +kernel) ⟨Nat.le_of_ble_eq_true rfl, Nat.le_of_ble_eq_true rfl⟩) ⟨zT.blind, zT.call⟩ rfl rfl hl.1 rfl (lv_room (Nat.le_of_ble_eq_true rfl)) dL_act_6 ⟨Nat.zero_le _, Nat.zero_le _⟩).run) (fun r_6 h_6 => ?_)
  have h_6 : r_6 = (zLo (v >>> (22 &&& 31)) 8) := h_6
  subst h_6
  refine lv_if_ne (tgt := 16) hx hb dL_act_9 (by decide) (fun c_9 => ?_) (fun c_9 => ?_)
  · exact absurd ho c_9
  · refine lv_iconst (v := 1) hx hb dL_act_12 (by decide) ?_
    refine lv_goto (tgt := 17) hx hb dL_act_13 (by decide) ?_
    refine lv_istore_n (lv' := [(2, .int 1), (0, .ref h), (1, .int v)]) hx hb dL_act_17 rfl hl (by decide) rfl (fun ls hl => ?_)
    refine lv_iload_n hx hb dL_act_18 rfl (lv_at hl 2 rfl) ?_
    refine lv_iconst (v := 4) hx hb dL_act_19 (by decide) ?_
    refine lv_ishr hx hb dL_act_20 ?_
    refine lv_iload_n hx hb dL_act_21 rfl (lv_at hl 0 rfl) ?_
    refine lv_if_eq (tgt := 30) hx hb dL_act_22 (by decide) (fun c_22 => absurd c_22 (by decide)) (fun _ => ?_)
    refine lv_bipush (v := 6) hx hb dL_act_25 (by decide) ?_
    refine lv_goto (tgt := 31) hx hb dL_act_27 (by decide) ?_
    refine vp_callSi ((va_runS (As := [.int (v >>> (4 &&& 31)), .int 6]) (rest := []) ⟨hx, hb, hml, hown, hts⟩ (c_L_low l (v >>> (4 &&& 31)) 6 (by decide)) (va_cwS 2 hts gL_act_L_low rfl rfl rfl (by decide +kernel) ⟨Nat.le_of_ble_eq_true rfl, Nat.le_of_ble_eq_true rfl⟩) ⟨zT.blind, zT.call⟩ rfl rfl hl.1 rfl (lv_room (Nat.le_of_ble_eq_true rfl)) dL_act_31 ⟨Nat.zero_le _, Nat.zero_le _⟩).run) (fun r_31 h_31 => ?_)
    have h_31 : r_31 = (zLo (v >>> (4 &&& 31)) 6) := h_31
    subst h_31
    refine lv_istore_n (lv' := [(3, .int (zLo (v >>> (4 &&& 31)) 6)), (2, .int 1), (0, .ref h), (1, .int v)]) hx hb dL_act_34 rfl hl (by decide) rfl (fun ls hl => ?_)
    refine lv_iload_n hx hb dL_act_35 rfl (lv_at hl 3 rfl) ?_
    refine lv_bipush (v := 6) hx hb dL_act_36 (by decide) ?_
    refine lv_ishr hx hb dL_act_38 ?_
    refine lv_iload_n hx hb dL_act_39 rfl (lv_at hl 1 rfl) ?_
    refine lv_if_eq (tgt := 49) hx hb dL_act_40 (by decide) (fun c_40 => absurd c_40 (by decide)) (fun _ => ?_)
    refine lv_sipush (v := 13000) hx hb dL_act_43 (by decide) ?_
    refine lv_goto (tgt := 52) hx hb dL_act_46 (by decide) ?_
    refine vp_callSi ((va_runS (As := [.int (v >>> (6 &&& 31)), .int 13000]) (rest := []) ⟨hx, hb, hml, hown, hts⟩ (c_L_low l (v >>> (6 &&& 31)) 13000 (by decide)) (va_cwS 2 hts gL_act_L_low rfl rfl rfl (by decide +kernel) ⟨Nat.le_of_ble_eq_true rfl, Nat.le_of_ble_eq_true rfl⟩) ⟨zT.blind, zT.call⟩ rfl rfl hl.1 rfl (lv_room (Nat.le_of_ble_eq_true rfl)) dL_act_52 ⟨Nat.zero_le _, Nat.zero_le _⟩).run) (fun r_52 h_52 => ?_)
    have h_52 : r_52 = (zLo (v >>> (6 &&& 31)) 13000) := h_52
    subst h_52
    refine lv_istore (lv' := [(4, .int (zLo (v >>> (6 &&& 31)) 13000)), (3, .int (zLo (v >>> (4 &&& 31)) 6)), (2, .int 1), (0, .ref h), (1, .int v)]) hx hb dL_act_55 hl (by decide) rfl (fun ls hl => ?_)
    refine lv_iload_n hx hb dL_act_57 rfl (lv_at hl 4 rfl) ?_
    refine lv_bipush (v := 12) hx hb dL_act_58 (by decide) ?_
    refine vp_callSi ((va_runS (As := [.int v, .int 12]) (rest := []) ⟨hx, hb, hml, hown, hts⟩ (c_L_low l v 12 (by decide)) (va_cwS 2 hts gL_act_L_low rfl rfl rfl (by decide +kernel) ⟨Nat.le_of_ble_eq_true rfl, Nat.le_of_ble_eq_true rfl⟩) ⟨zT.blind, zT.call⟩ rfl rfl hl.1 rfl (lv_room (Nat.le_of_ble_eq_true rfl)) dL_act_60 ⟨Nat.zero_le _, Nat.zero_le _⟩).run) (fun r_60 h_60 => ?_)
    have h_60 : r_60 = (zLo v 12) := h_60
    subst h_60
    rw [show ((zLo v 12) : Int32) = (nI k) from hk]
    refine act_sw hx hb hk12 ?_
    rw [ht]
    refine lv_aload_n hx hb dL_act_226 rfl (lv_at hl 3 rfl) ?_
    refine lv_iload_n hx hb dL_act_227 rfl (lv_at hl 1 rfl) ?_
    refine lv_iload hx hb dL_act_228 (lv_at hl 0 rfl) ?_
    refine lv_iload_n hx hb dL_act_230 rfl (lv_at hl 4 rfl) ?_
    refine lv_bipush (v := 9) hx hb dL_act_231 (by decide) ?_
    refine lv_ishr hx hb dL_act_233 ?_
    refine lv_iload_n hx hb dL_act_234 rfl (lv_at hl 2 rfl) ?_
    refine lv_if_eq (tgt := 244) hx hb dL_act_235 (by decide) (fun c_235 => absurd c_235 (by decide)) (fun _ => ?_)
    refine lv_sipush (v := 13000) hx hb dL_act_238 (by decide) ?_
    refine lv_goto (tgt := 247) hx hb dL_act_241 (by decide) ?_
    refine vp_callSi ((va_runS (As := [.int (v >>> (9 &&& 31)), .int 13000]) (rest := [.int (zLo (v >>> (6 &&& 31)) 13000), .int (zLo (v >>> (4 &&& 31)) 6), .ref h]) ⟨hx, hb, hml, hown, hts⟩ (c_L_low l (v >>> (9 &&& 31)) 13000 (by decide)) (va_cwS 2 hts gL_act_L_low rfl rfl rfl (by decide +kernel) ⟨Nat.le_of_ble_eq_true rfl, Nat.le_of_ble_eq_true rfl⟩) ⟨zT.blind, zT.call⟩ rfl rfl hl.1 rfl (lv_room (Nat.le_of_ble_eq_true rfl)) dL_act_247 ⟨Nat.zero_le _, Nat.zero_le _⟩).run) (fun r_247 h_247 => ?_)
    have h_247 : r_247 = (zLo (v >>> (9 &&& 31)) 13000) := h_247
    subst h_247
    refine lv_iload_n hx hb dL_act_250 rfl (lv_at hl 4 rfl) ?_
    refine lv_bipush (v := 13) hx hb dL_act_251 (by decide) ?_
    refine lv_ishr hx hb dL_act_253 ?_
    refine lv_iload_n hx hb dL_act_254 rfl (lv_at hl 2 rfl) ?_
    refine lv_if_eq (tgt := 263) hx hb dL_act_255 (by decide) (fun c_255 => absurd c_255 (by decide)) (fun _ => ?_)
    refine lv_bipush (v := 55) hx hb dL_act_258 (by decide) ?_
    refine lv_goto (tgt := 265) hx hb dL_act_260 (by decide) ?_
    refine vp_callSi ((va_runS (As := [.int (v >>> (13 &&& 31)), .int 55]) (rest := [.int (zLo (v >>> (9 &&& 31)) 13000), .int (zLo (v >>> (6 &&& 31)) 13000), .int (zLo (v >>> (4 &&& 31)) 6), .ref h]) ⟨hx, hb, hml, hown, hts⟩ (c_L_low l (v >>> (13 &&& 31)) 55 (by decide)) (va_cwS 2 hts gL_act_L_low rfl rfl rfl (by decide +kernel) ⟨Nat.le_of_ble_eq_true rfl, Nat.le_of_ble_eq_true rfl⟩) ⟨zT.blind, zT.call⟩ rfl rfl hl.1 rfl (lv_room (Nat.le_of_ble_eq_true rfl)) dL_act_265 ⟨Nat.zero_le _, Nat.zero_le _⟩).run) (fun r_265 h_265 => ?_)
    have h_265 : r_265 = (zLo (v >>> (13 &&& 31)) 55) := h_265
    subst h_265
    refine lv_iload_n hx hb dL_act_268 rfl (lv_at hl 2 rfl) ?_
    refine lv_if_eq (tgt := 276) hx hb dL_act_269 (by decide) (fun c_269 => absurd c_269 (by decide)) (fun _ => ?_)
    refine lv_iconst (v := 0) hx hb dL_act_272 (by decide) ?_
    refine lv_goto (tgt := 277) hx hb dL_act_273 (by decide) ?_
    refine lv_iadd hx hb dL_act_277 ?_
    rw [show (((zLo (v >>> (13 &&& 31)) 55) + 0) : Int32) = (nI f) from ef]
    refine va_calli (vx_runSW (As := [.ref h, .int (zLo (v >>> (4 &&& 31)) 6), .int (zLo (v >>> (6 &&& 31)) 13000), .int (zLo (v >>> (9 &&& 31)) 13000), .int (nI f)]) (rest := []) ⟨hx, hb, hml, hown, hts⟩ (c_L_slide_v l D N0 cA cL E h d z c (zLo (v >>> (4 &&& 31)) 6) (zLo (v >>> (6 &&& 31)) 13000) (zLo (v >>> (9 &&& 31)) 13000) f hc hw ha hb2 hf hf2) (vx_cwSW 5 hts gL_act_L_slide rfl rfl rfl (by decide +kernel) ⟨Nat.le_of_ble_eq_true rfl, Nat.le_of_ble_eq_true rfl⟩) ⟨zPre.blind, zPre.call hN hP hD hK hE hS⟩ rfl rfl hl.1 rfl (lv_room (Nat.le_of_ble_eq_true rfl)) dL_act_278 ⟨Nat.zero_le _, Nat.zero_le _⟩) hS (fun _ _ h9 => h9) (fun _ h9 => h9) (fun r_278 _ t H locs ht hvm h_278 hB hz1 hk1 hS => ?_)
    have h_278 : r_278 = ((zSl c (zLo (v >>> (4 &&& 31)) 6).toNatClampNeg (zLo (v >>> (6 &&& 31)) 13000) (zLo (v >>> (9 &&& 31)) 13000) f z f).2.2.2.1 (zLo (v >>> (4 &&& 31)) 6).toNatClampNeg - z.2.2.2.1 (zLo (v >>> (4 &&& 31)) 6).toNatClampNeg) := h_278
    subst h_278
    obtain ⟨hP, hD⟩ := hB
    rw [ht] at hP
    have hP : va_P D vwCl (wX h d cA (zSl c (zLo (v >>> (4 &&& 31)) 6).toNatClampNeg (zLo (v >>> (6 &&& 31)) 13000) (zLo (v >>> (9 &&& 31)) 13000) f z f) c ++ E) H := hP
    have hD : va_D (zA N0) (wX h d cA (zSl c (zLo (v >>> (4 &&& 31)) 6).toNatClampNeg (zLo (v >>> (6 &&& 31)) 13000) (zLo (v >>> (9 &&& 31)) 13000) f z f) c ++ E) := hD
    exact W.iret (v := ((zSl c (zLo (v >>> (4 &&& 31)) 6).toNatClampNeg (zLo (v >>> (6 &&& 31)) 13000) (zLo (v >>> (9 &&& 31)) 13000) f z f).2.2.2.1 (zLo (v >>> (4 &&& 31)) 6).toNatClampNeg - z.2.2.2.1 (zLo (v >>> (4 &&& 31)) 6).toNatClampNeg)) hx hb hr (fun t ht hW => ⟨⟨_, (), rfl, rfl, ⟨by rw [ht]; exact hP, hD⟩⟩, hS.F ht⟩) hS.2.2 dL_act_281

set_option maxHeartbeats 4000000 in
set_option maxRecDepth 100000 in
theorem c_L_act_slide_x1 (l : Launch) (hst : l.stackTraces = false) (D : va_G) (N0 : Nat) (cA cL : ClassId) (E : va_W) (h : Nat) (d : Nat → Nat) (z : S7) (c : C5) (v : Int32) (k : Nat) (hk : zLo v 12 = nI k) (hk12 : k < 12) (ht : zTg k = 226) (ho : zLo (v >>> (22 &&& 31)) 8 = 0) (hw : ¬ zw (zLo (v >>> (4 &&& 31)) 6)) : Met l yL_act wsL_act ({ frames := 10, cells := 1, slots := 6, locals := 300 }) (va_Pc [.ref h, .int v] (zPre D N0 cA cL (wX h d cA z c ++ E))) (va_Qi (fun (rv : Int32) (_ : Unit) => rv = (-99999)) (fun _ t => zPost D N0 (wX h d cA z c ++ E) t) (zA N0)) 1 6 (zA N0) := by
  refine Met.ofW (cc := cL_act) (maxL := 5) (ret := (some .int)) (by decide) rfl ?_
  intro pr e s m ag below meth cd s₁ B hml hv
  obtain ⟨rfl, hN, hP, hD, hK, hE⟩ := hv
  have hx := B.exec
  have hb := B.bytes
  have hr := B.returns
  have hts := atoms_spec (ws := wsL_act) B.pre
  have hown : s.vm.findClass RL = some m.cls := findClass_of_methodNamed B.named
  have hlocks := B.notSynchronized
  have hS : va_S (zA N0) s.heap s.heap [] := va_S.rf
  have hl := lv_entry ([.ref h, .int v]) (n := 5) (Nat.le_of_ble_eq_true rfl)
  rw [lg_entry_eq]
  generalize (lg_sl ([.ref h, .int v]) ++ List.replicate (5 - (lg_sl ([.ref h, .int v])).length) Slot.unset).toArray = ls at hl ⊢
  have hl : lv_has ls 5 [(0, .ref h), (1, .int v)] := hl
  refine lv_iload_n hx hb dL_act_0 rfl (lv_at hl 1 rfl) ?_
  refine lv_bipush (v := 22) hx hb dL_act_1 (by decide) ?_
  refine lv_ishr hx hb dL_act_3 ?_
  refine lv_bipush (v := 8) hx hb dL_act_4 (by decide) ?_
  refine vp_callSi ((va_runS (As := [.int (v >>> (22 &&& 31)), .int 8]) (rest := []) ⟨hx, hb, hml, hown, hts⟩ (c_L_low l (v >>> (22 &&& 31)) 8 (by decide)) (va_cwS 2 hts gL_act_L_low rfl rfl rfl (by decide +kernel) ⟨Nat.le_of_ble_eq_true rfl, Nat.le_of_ble_eq_true rfl⟩) ⟨zT.blind, zT.call⟩ rfl rfl hl.1 rfl (lv_room (Nat.le_of_ble_eq_true rfl)) dL_act_6 ⟨Nat.zero_le _, Nat.zero_le _⟩).run) (fun r_6 h_6 => ?_)
  have h_6 : r_6 = (zLo (v >>> (22 &&& 31)) 8) := h_6
  subst h_6
  refine lv_if_ne (tgt := 16) hx hb dL_act_9 (by decide) (fun c_9 => ?_) (fun c_9 => ?_)
  · exact absurd ho c_9
  · refine lv_iconst (v := 1) hx hb dL_act_12 (by decide) ?_
    refine lv_goto (tgt := 17) hx hb dL_act_13 (by decide) ?_
    refine lv_istore_n (lv' := [(2, .int 1), (0, .ref h), (1, .int v)]) hx hb dL_act_17 rfl hl (by decide) rfl (fun ls hl => ?_)
    refine lv_iload_n hx hb dL_act_18 rfl (lv_at hl 2 rfl) ?_
    refine lv_iconst (v := 4) hx hb dL_act_19 (by decide) ?_
    refine lv_ishr hx hb dL_act_20 ?_
    refine lv_iload_n hx hb dL_act_21 rfl (lv_at hl 0 rfl) ?_
    refine lv_if_eq (tgt := 30) hx hb dL_act_22 (by decide) (fun c_22 => absurd c_22 (by decide)) (fun _ => ?_)
    refine lv_bipush (v := 6) hx hb dL_act_25 (by decide) ?_
    refine lv_goto (tgt := 31) hx hb dL_act_27 (by decide) ?_
    refine vp_callSi ((va_runS (As := [.int (v >>> (4 &&& 31)), .int 6]) (rest := []) ⟨hx, hb, hml, hown, hts⟩ (c_L_low l (v >>> (4 &&& 31)) 6 (by decide)) (va_cwS 2 hts gL_act_L_low rfl rfl rfl (by decide +kernel) ⟨Nat.le_of_ble_eq_true rfl, Nat.le_of_ble_eq_true rfl⟩) ⟨zT.blind, zT.call⟩ rfl rfl hl.1 rfl (lv_room (Nat.le_of_ble_eq_true rfl)) dL_act_31 ⟨Nat.zero_le _, Nat.zero_le _⟩).run) (fun r_31 h_31 => ?_)
    have h_31 : r_31 = (zLo (v >>> (4 &&& 31)) 6) := h_31
    subst h_31
    refine lv_istore_n (lv' := [(3, .int (zLo (v >>> (4 &&& 31)) 6)), (2, .int 1), (0, .ref h), (1, .int v)]) hx hb dL_act_34 rfl hl (by decide) rfl (fun ls hl => ?_)
    refine lv_iload_n hx hb dL_act_35 rfl (lv_at hl 3 rfl) ?_
    refine lv_bipush (v := 6) hx hb dL_act_36 (by decide) ?_
    refine lv_ishr hx hb dL_act_38 ?_
    refine lv_iload_n hx hb dL_act_39 rfl (lv_at hl 1 rfl) ?_
    refine lv_if_eq (tgt := 49) hx hb dL_act_40 (by decide) (fun c_40 => absurd c_40 (by decide)) (fun _ => ?_)
    refine lv_sipush (v := 13000) hx hb dL_act_43 (by decide) ?_
    refine lv_goto (tgt := 52) hx hb dL_act_46 (by decide) ?_
    refine vp_callSi ((va_runS (As := [.int (v >>> (6 &&& 31)), .int 13000]) (rest := []) ⟨hx, hb, hml, hown, hts⟩ (c_L_low l (v >>> (6 &&& 31)) 13000 (by decide)) (va_cwS 2 hts gL_act_L_low rfl rfl rfl (by decide +kernel) ⟨Nat.le_of_ble_eq_true rfl, Nat.le_of_ble_eq_true rfl⟩) ⟨zT.blind, zT.call⟩ rfl rfl hl.1 rfl (lv_room (Nat.le_of_ble_eq_true rfl)) dL_act_52 ⟨Nat.zero_le _, Nat.zero_le _⟩).run) (fun r_52 h_52 => ?_)
    have h_52 : r_52 = (zLo (v >>> (6 &&& 31)) 13000) := h_52
    subst h_52
    refine lv_istore (lv' := [(4, .int (zLo (v >>> (6 &&& 31)) 13000)), (3, .int (zLo (v >>> (4 &&& 31)) 6)), (2, .int 1), (0, .ref h), (1, .int v)]) hx hb dL_act_55 hl (by decide) rfl (fun ls hl => ?_)
    refine lv_iload_n hx hb dL_act_57 rfl (lv_at hl 4 rfl) ?_
    refine lv_bipush (v := 12) hx hb dL_act_58 (by decide) ?_
    refine vp_callSi ((va_runS (As := [.int v, .int 12]) (rest := []) ⟨hx, hb, hml, hown, hts⟩ (c_L_low l v 12 (by decide)) (va_cwS 2 hts gL_act_L_low rfl rfl rfl (by decide +kernel) ⟨Nat.le_of_ble_eq_true rfl, Nat.le_of_ble_eq_true rfl⟩) ⟨zT.blind, zT.call⟩ rfl rfl hl.1 rfl (lv_room (Nat.le_of_ble_eq_true rfl)) dL_act_60 ⟨Nat.zero_le _, Nat.zero_le _⟩).run) (fun r_60 h_60 => ?_)
    have h_60 : r_60 = (zLo v 12) := h_60
    subst h_60
    rw [show ((zLo v 12) : Int32) = (nI k) from hk]
    refine act_sw hx hb hk12 ?_
    rw [ht]
    refine lv_aload_n hx hb dL_act_226 rfl (lv_at hl 3 rfl) ?_
    refine lv_iload_n hx hb dL_act_227 rfl (lv_at hl 1 rfl) ?_
    refine lv_iload hx hb dL_act_228 (lv_at hl 0 rfl) ?_
    refine lv_iload_n hx hb dL_act_230 rfl (lv_at hl 4 rfl) ?_
    refine lv_bipush (v := 9) hx hb dL_act_231 (by decide) ?_
    refine lv_ishr hx hb dL_act_233 ?_
    refine lv_iload_n hx hb dL_act_234 rfl (lv_at hl 2 rfl) ?_
    refine lv_if_eq (tgt := 244) hx hb dL_act_235 (by decide) (fun c_235 => absurd c_235 (by decide)) (fun _ => ?_)
    refine lv_sipush (v := 13000) hx hb dL_act_238 (by decide) ?_
    refine lv_goto (tgt := 247) hx hb dL_act_241 (by decide) ?_
    refine vp_callSi ((va_runS (As := [.int (v >>> (9 &&& 31)), .int 13000]) (rest := [.int (zLo (v >>> (6 &&& 31)) 13000), .int (zLo (v >>> (4 &&& 31)) 6), .ref h]) ⟨hx, hb, hml, hown, hts⟩ (c_L_low l (v >>> (9 &&& 31)) 13000 (by decide)) (va_cwS 2 hts gL_act_L_low rfl rfl rfl (by decide +kernel) ⟨Nat.le_of_ble_eq_true rfl, Nat.le_of_ble_eq_true rfl⟩) ⟨zT.blind, zT.call⟩ rfl rfl hl.1 rfl (lv_room (Nat.le_of_ble_eq_true rfl)) dL_act_247 ⟨Nat.zero_le _, Nat.zero_le _⟩).run) (fun r_247 h_247 => ?_)
    have h_247 : r_247 = (zLo (v >>> (9 &&& 31)) 13000) := h_247
    subst h_247
    refine lv_iload_n hx hb dL_act_250 rfl (lv_at hl 4 rfl) ?_
    refine lv_bipush (v := 13) hx hb dL_act_251 (by decide) ?_
    refine lv_ishr hx hb dL_act_253 ?_
    refine lv_iload_n hx hb dL_act_254 rfl (lv_at hl 2 rfl) ?_
    refine lv_if_eq (tgt := 263) hx hb dL_act_255 (by decide) (fun c_255 => absurd c_255 (by decide)) (fun _ => ?_)
    refine lv_bipush (v := 55) hx hb dL_act_258 (by decide) ?_
    refine lv_goto (tgt := 265) hx hb dL_act_260 (by decide) ?_
    refine vp_callSi ((va_runS (As := [.int (v >>> (13 &&& 31)), .int 55]) (rest := [.int (zLo (v >>> (9 &&& 31)) 13000), .int (zLo (v >>> (6 &&& 31)) 13000), .int (zLo (v >>> (4 &&& 31)) 6), .ref h]) ⟨hx, hb, hml, hown, hts⟩ (c_L_low l (v >>> (13 &&& 31)) 55 (by decide)) (va_cwS 2 hts gL_act_L_low rfl rfl rfl (by decide +kernel) ⟨Nat.le_of_ble_eq_true rfl, Nat.le_of_ble_eq_true rfl⟩) ⟨zT.blind, zT.call⟩ rfl rfl hl.1 rfl (lv_room (Nat.le_of_ble_eq_true rfl)) dL_act_265 ⟨Nat.zero_le _, Nat.zero_le _⟩).run) (fun r_265 h_265 => ?_)
    have h_265 : r_265 = (zLo (v >>> (13 &&& 31)) 55) := h_265
    subst h_265
    refine lv_iload_n hx hb dL_act_268 rfl (lv_at hl 2 rfl) ?_
    refine lv_if_eq (tgt := 276) hx hb dL_act_269 (by decide) (fun c_269 => absurd c_269 (by decide)) (fun _ => ?_)
    refine lv_iconst (v := 0) hx hb dL_act_272 (by decide) ?_
    refine lv_goto (tgt := 277) hx hb dL_act_273 (by decide) ?_
    refine lv_iadd hx hb dL_act_277 ?_
    refine va_calli (vx_runSW (As := [.ref h, .int (zLo (v >>> (4 &&& 31)) 6), .int (zLo (v >>> (6 &&& 31)) 13000), .int (zLo (v >>> (9 &&& 31)) 13000), .int ((zLo (v >>> (13 &&& 31)) 55) + 0)]) (rest := []) ⟨hx, hb, hml, hown, hts⟩ (c_L_slide_1 l hst D N0 cA cL E h d z c (zLo (v >>> (4 &&& 31)) 6) (zLo (v >>> (6 &&& 31)) 13000) (zLo (v >>> (9 &&& 31)) 13000) ((zLo (v >>> (13 &&& 31)) 55) + 0) hw) (vx_cwSW 5 hts gL_act_L_slide rfl rfl rfl (by decide +kernel) ⟨Nat.le_of_ble_eq_true rfl, Nat.le_of_ble_eq_true rfl⟩) ⟨zPre.blind, zPre.call hN hP hD hK hE hS⟩ rfl rfl hl.1 rfl (lv_room (Nat.le_of_ble_eq_true rfl)) dL_act_278 ⟨Nat.le_refl _, Nat.le_refl _⟩) hS (fun _ _ h9 => h9) (fun _ h9 => h9) (fun r_278 _ t H locs ht hvm h_278 hB hz1 hk1 hS => ?_)
    have h_278 : r_278 = (-99999) := h_278
    subst h_278
    obtain ⟨hP, hD⟩ := hB
    rw [ht] at hP
    have hP : va_P D vwCl (wX h d cA z c ++ E) H := hP
    have hD : va_D (zA N0) (wX h d cA z c ++ E) := hD
    exact W.iret (v := (-99999)) hx hb hr (fun t ht hW => ⟨⟨_, (), rfl, rfl, ⟨by rw [ht]; exact hP, hD⟩⟩, hS.F ht⟩) hS.2.2 dL_act_281

set_option maxHeartbeats 4000000 in
set_option maxRecDepth 100000 in
theorem c_L_act_slide_x2 (l : Launch) (hst : l.stackTraces = false) (D : va_G) (N0 : Nat) (cA cL : ClassId) (E : va_W) (h : Nat) (d : Nat → Nat) (z : S7) (c : C5) (v : Int32) (k : Nat) (hk : zLo v 12 = nI k) (hk12 : k < 12) (ht : zTg k = 226) (ho : zLo (v >>> (22 &&& 31)) 8 = 0) (hw : zw (zLo (v >>> (4 &&& 31)) 6)) (hn : ¬ (zp (zLo (v >>> (6 &&& 31)) 13000) ∧ zp (zLo (v >>> (9 &&& 31)) 13000) ∧ zFr ((zLo (v >>> (13 &&& 31)) 55) + 0))) : Met l yL_act wsL_act ({ frames := 10, cells := 1, slots := 6, locals := 300 }) (va_Pc [.ref h, .int v] (zPre D N0 cA cL (wX h d cA z c ++ E))) (va_Qi (fun (rv : Int32) (_ : Unit) => rv = (-99999)) (fun _ t => zPost D N0 (wX h d cA z c ++ E) t) (zA N0)) 1 6 (zA N0) := by
  refine Met.ofW (cc := cL_act) (maxL := 5) (ret := (some .int)) (by decide) rfl ?_
  intro pr e s m ag below meth cd s₁ B hml hv
  obtain ⟨rfl, hN, hP, hD, hK, hE⟩ := hv
  have hx := B.exec
  have hb := B.bytes
  have hr := B.returns
  have hts := atoms_spec (ws := wsL_act) B.pre
  have hown : s.vm.findClass RL = some m.cls := findClass_of_methodNamed B.named
  have hlocks := B.notSynchronized
  have hS : va_S (zA N0) s.heap s.heap [] := va_S.rf
  have hl := lv_entry ([.ref h, .int v]) (n := 5) (Nat.le_of_ble_eq_true rfl)
  rw [lg_entry_eq]
  generalize (lg_sl ([.ref h, .int v]) ++ List.replicate (5 - (lg_sl ([.ref h, .int v])).length) Slot.unset).toArray = ls at hl ⊢
  have hl : lv_has ls 5 [(0, .ref h), (1, .int v)] := hl
  refine lv_iload_n hx hb dL_act_0 rfl (lv_at hl 1 rfl) ?_
  refine lv_bipush (v := 22) hx hb dL_act_1 (by decide) ?_
  refine lv_ishr hx hb dL_act_3 ?_
  refine lv_bipush (v := 8) hx hb dL_act_4 (by decide) ?_
  refine vp_callSi ((va_runS (As := [.int (v >>> (22 &&& 31)), .int 8]) (rest := []) ⟨hx, hb, hml, hown, hts⟩ (c_L_low l (v >>> (22 &&& 31)) 8 (by decide)) (va_cwS 2 hts gL_act_L_low rfl rfl rfl (by decide +kernel) ⟨Nat.le_of_ble_eq_true rfl, Nat.le_of_ble_eq_true rfl⟩) ⟨zT.blind, zT.call⟩ rfl rfl hl.1 rfl (lv_room (Nat.le_of_ble_eq_true rfl)) dL_act_6 ⟨Nat.zero_le _, Nat.zero_le _⟩).run) (fun r_6 h_6 => ?_)
  have h_6 : r_6 = (zLo (v >>> (22 &&& 31)) 8) := h_6
  subst h_6
  refine lv_if_ne (tgt := 16) hx hb dL_act_9 (by decide) (fun c_9 => ?_) (fun c_9 => ?_)
  · exact absurd ho c_9
  · refine lv_iconst (v := 1) hx hb dL_act_12 (by decide) ?_
    refine lv_goto (tgt := 17) hx hb dL_act_13 (by decide) ?_
    refine lv_istore_n (lv' := [(2, .int 1), (0, .ref h), (1, .int v)]) hx hb dL_act_17 rfl hl (by decide) rfl (fun ls hl => ?_)
    refine lv_iload_n hx hb dL_act_18 rfl (lv_at hl 2 rfl) ?_
    refine lv_iconst (v := 4) hx hb dL_act_19 (by decide) ?_
    refine lv_ishr hx hb dL_act_20 ?_
    refine lv_iload_n hx hb dL_act_21 rfl (lv_at hl 0 rfl) ?_
    refine lv_if_eq (tgt := 30) hx hb dL_act_22 (by decide) (fun c_22 => absurd c_22 (by decide)) (fun _ => ?_)
    refine lv_bipush (v := 6) hx hb dL_act_25 (by decide) ?_
    refine lv_goto (tgt := 31) hx hb dL_act_27 (by decide) ?_
    refine vp_callSi ((va_runS (As := [.int (v >>> (4 &&& 31)), .int 6]) (rest := []) ⟨hx, hb, hml, hown, hts⟩ (c_L_low l (v >>> (4 &&& 31)) 6 (by decide)) (va_cwS 2 hts gL_act_L_low rfl rfl rfl (by decide +kernel) ⟨Nat.le_of_ble_eq_true rfl, Nat.le_of_ble_eq_true rfl⟩) ⟨zT.blind, zT.call⟩ rfl rfl hl.1 rfl (lv_room (Nat.le_of_ble_eq_true rfl)) dL_act_31 ⟨Nat.zero_le _, Nat.zero_le _⟩).run) (fun r_31 h_31 => ?_)
    have h_31 : r_31 = (zLo (v >>> (4 &&& 31)) 6) := h_31
    subst h_31
    refine lv_istore_n (lv' := [(3, .int (zLo (v >>> (4 &&& 31)) 6)), (2, .int 1), (0, .ref h), (1, .int v)]) hx hb dL_act_34 rfl hl (by decide) rfl (fun ls hl => ?_)
    refine lv_iload_n hx hb dL_act_35 rfl (lv_at hl 3 rfl) ?_
    refine lv_bipush (v := 6) hx hb dL_act_36 (by decide) ?_
    refine lv_ishr hx hb dL_act_38 ?_
    refine lv_iload_n hx hb dL_act_39 rfl (lv_at hl 1 rfl) ?_
    refine lv_if_eq (tgt := 49) hx hb dL_act_40 (by decide) (fun c_40 => absurd c_40 (by decide)) (fun _ => ?_)
    refine lv_sipush (v := 13000) hx hb dL_act_43 (by decide) ?_
    refine lv_goto (tgt := 52) hx hb dL_act_46 (by decide) ?_
    refine vp_callSi ((va_runS (As := [.int (v >>> (6 &&& 31)), .int 13000]) (rest := []) ⟨hx, hb, hml, hown, hts⟩ (c_L_low l (v >>> (6 &&& 31)) 13000 (by decide)) (va_cwS 2 hts gL_act_L_low rfl rfl rfl (by decide +kernel) ⟨Nat.le_of_ble_eq_true rfl, Nat.le_of_ble_eq_true rfl⟩) ⟨zT.blind, zT.call⟩ rfl rfl hl.1 rfl (lv_room (Nat.le_of_ble_eq_true rfl)) dL_act_52 ⟨Nat.zero_le _, Nat.zero_le _⟩).run) (fun r_52 h_52 => ?_)
    have h_52 : r_52 = (zLo (v >>> (6 &&& 31)) 13000) := h_52
    subst h_52
    refine lv_istore (lv' := [(4, .int (zLo (v >>> (6 &&& 31)) 13000)), (3, .int (zLo (v >>> (4 &&& 31)) 6)), (2, .int 1), (0, .ref h), (1, .int v)]) hx hb dL_act_55 hl (by decide) rfl (fun ls hl => ?_)
    refine lv_iload_n hx hb dL_act_57 rfl (lv_at hl 4 rfl) ?_
    refine lv_bipush (v := 12) hx hb dL_act_58 (by decide) ?_
    refine vp_callSi ((va_runS (As := [.int v, .int 12]) (rest := []) ⟨hx, hb, hml, hown, hts⟩ (c_L_low l v 12 (by decide)) (va_cwS 2 hts gL_act_L_low rfl rfl rfl (by decide +kernel) ⟨Nat.le_of_ble_eq_true rfl, Nat.le_of_ble_eq_true rfl⟩) ⟨zT.blind, zT.call⟩ rfl rfl hl.1 rfl (lv_room (Nat.le_of_ble_eq_true rfl)) dL_act_60 ⟨Nat.zero_le _, Nat.zero_le _⟩).run) (fun r_60 h_60 => ?_)
    have h_60 : r_60 = (zLo v 12) := h_60
    subst h_60
    rw [show ((zLo v 12) : Int32) = (nI k) from hk]
    refine act_sw hx hb hk12 ?_
    rw [ht]
    refine lv_aload_n hx hb dL_act_226 rfl (lv_at hl 3 rfl) ?_
    refine lv_iload_n hx hb dL_act_227 rfl (lv_at hl 1 rfl) ?_
    refine lv_iload hx hb dL_act_228 (lv_at hl 0 rfl) ?_
    refine lv_iload_n hx hb dL_act_230 rfl (lv_at hl 4 rfl) ?_
    refine lv_bipush (v := 9) hx hb dL_act_231 (by decide) ?_
    refine lv_ishr hx hb dL_act_233 ?_
    refine lv_iload_n hx hb dL_act_234 rfl (lv_at hl 2 rfl) ?_
    refine lv_if_eq (tgt := 244) hx hb dL_act_235 (by decide) (fun c_235 => absurd c_235 (by decide)) (fun _ => ?_)
    refine lv_sipush (v := 13000) hx hb dL_act_238 (by decide) ?_
    refine lv_goto (tgt := 247) hx hb dL_act_241 (by decide) ?_
    refine vp_callSi ((va_runS (As := [.int (v >>> (9 &&& 31)), .int 13000]) (rest := [.int (zLo (v >>> (6 &&& 31)) 13000), .int (zLo (v >>> (4 &&& 31)) 6), .ref h]) ⟨hx, hb, hml, hown, hts⟩ (c_L_low l (v >>> (9 &&& 31)) 13000 (by decide)) (va_cwS 2 hts gL_act_L_low rfl rfl rfl (by decide +kernel) ⟨Nat.le_of_ble_eq_true rfl, Nat.le_of_ble_eq_true rfl⟩) ⟨zT.blind, zT.call⟩ rfl rfl hl.1 rfl (lv_room (Nat.le_of_ble_eq_true rfl)) dL_act_247 ⟨Nat.zero_le _, Nat.zero_le _⟩).run) (fun r_247 h_247 => ?_)
    have h_247 : r_247 = (zLo (v >>> (9 &&& 31)) 13000) := h_247
    subst h_247
    refine lv_iload_n hx hb dL_act_250 rfl (lv_at hl 4 rfl) ?_
    refine lv_bipush (v := 13) hx hb dL_act_251 (by decide) ?_
    refine lv_ishr hx hb dL_act_253 ?_
    refine lv_iload_n hx hb dL_act_254 rfl (lv_at hl 2 rfl) ?_
    refine lv_if_eq (tgt := 263) hx hb dL_act_255 (by decide) (fun c_255 => absurd c_255 (by decide)) (fun _ => ?_)
    refine lv_bipush (v := 55) hx hb dL_act_258 (by decide) ?_
    refine lv_goto (tgt := 265) hx hb dL_act_260 (by decide) ?_
    refine vp_callSi ((va_runS (As := [.int (v >>> (13 &&& 31)), .int 55]) (rest := [.int (zLo (v >>> (9 &&& 31)) 13000), .int (zLo (v >>> (6 &&& 31)) 13000), .int (zLo (v >>> (4 &&& 31)) 6), .ref h]) ⟨hx, hb, hml, hown, hts⟩ (c_L_low l (v >>> (13 &&& 31)) 55 (by decide)) (va_cwS 2 hts gL_act_L_low rfl rfl rfl (by decide +kernel) ⟨Nat.le_of_ble_eq_true rfl, Nat.le_of_ble_eq_true rfl⟩) ⟨zT.blind, zT.call⟩ rfl rfl hl.1 rfl (lv_room (Nat.le_of_ble_eq_true rfl)) dL_act_265 ⟨Nat.zero_le _, Nat.zero_le _⟩).run) (fun r_265 h_265 => ?_)
    have h_265 : r_265 = (zLo (v >>> (13 &&& 31)) 55) := h_265
    subst h_265
    refine lv_iload_n hx hb dL_act_268 rfl (lv_at hl 2 rfl) ?_
    refine lv_if_eq (tgt := 276) hx hb dL_act_269 (by decide) (fun c_269 => absurd c_269 (by decide)) (fun _ => ?_)
    refine lv_iconst (v := 0) hx hb dL_act_272 (by decide) ?_
    refine lv_goto (tgt := 277) hx hb dL_act_273 (by decide) ?_
    refine lv_iadd hx hb dL_act_277 ?_
    refine va_calli (vx_runSW (As := [.ref h, .int (zLo (v >>> (4 &&& 31)) 6), .int (zLo (v >>> (6 &&& 31)) 13000), .int (zLo (v >>> (9 &&& 31)) 13000), .int ((zLo (v >>> (13 &&& 31)) 55) + 0)]) (rest := []) ⟨hx, hb, hml, hown, hts⟩ (c_L_slide_2 l hst D N0 cA cL E h d z c (zLo (v >>> (4 &&& 31)) 6) (zLo (v >>> (6 &&& 31)) 13000) (zLo (v >>> (9 &&& 31)) 13000) ((zLo (v >>> (13 &&& 31)) 55) + 0) hw hn) (vx_cwSW 5 hts gL_act_L_slide rfl rfl rfl (by decide +kernel) ⟨Nat.le_of_ble_eq_true rfl, Nat.le_of_ble_eq_true rfl⟩) ⟨zPre.blind, zPre.call hN hP hD hK hE hS⟩ rfl rfl hl.1 rfl (lv_room (Nat.le_of_ble_eq_true rfl)) dL_act_278 ⟨Nat.le_refl _, Nat.le_refl _⟩) hS (fun _ _ h9 => h9) (fun _ h9 => h9) (fun r_278 _ t H locs ht hvm h_278 hB hz1 hk1 hS => ?_)
    have h_278 : r_278 = (-99999) := h_278
    subst h_278
    obtain ⟨hP, hD⟩ := hB
    rw [ht] at hP
    have hP : va_P D vwCl (wX h d cA z c ++ E) H := hP
    have hD : va_D (zA N0) (wX h d cA z c ++ E) := hD
    exact W.iret (v := (-99999)) hx hb hr (fun t ht hW => ⟨⟨_, (), rfl, rfl, ⟨by rw [ht]; exact hP, hD⟩⟩, hS.F ht⟩) hS.2.2 dL_act_281

set_option maxHeartbeats 4000000 in
set_option maxRecDepth 100000 in
theorem c_L_act_near_ea (l : Launch) (D : va_G) (N0 : Nat) (cA cL : ClassId) (E : va_W) (h : Nat) (d : Nat → Nat) (z : S7) (c : C5) (v : Int32) (k : Nat) (hk : zLo v 12 = nI k) (hk12 : k < 12) (ht : zTg k = 282) (ho : ¬ zLo (v >>> (22 &&& 31)) 8 = 0) (g1 : zLe (z.1 (zLo (v >>> (4 &&& 31)) 4).toNatClampNeg) 100) (hw : zw (zLo (v >>> (4 &&& 31)) 4)) (hp : zp (zLo (v >>> (6 &&& 31)) 12001)) (hc : okC c) : Met l yL_act wsL_act ({ frames := 10, cells := 0, slots := 0, locals := 300 }) (va_Pc [.ref h, .int v] (zPre D N0 cA cL (wX h d cA z c ++ E))) (va_Qi (fun (rv : Int32) (_ : Unit) => rv = zOut c (zLo (v >>> (4 &&& 31)) 4).toNatClampNeg (zLo (v >>> (6 &&& 31)) 12001) z) (fun _ t => zPost D N0 (wX h d cA (zSg c (zLo (v >>> (4 &&& 31)) 4).toNatClampNeg (zLo (v >>> (6 &&& 31)) 12001) z) c ++ E) t) (zA N0)) 0 0 (zA N0) := by
  refine Met.ofW (cc := cL_act) (maxL := 5) (ret := (some .int)) (by decide) rfl ?_
  intro pr e s m ag below meth cd s₁ B hml hv
  obtain ⟨rfl, hN, hP, hD, hK, hE⟩ := hv
  have hx := B.exec
  have hb := B.bytes
  have hr := B.returns
  have hts := atoms_spec (ws := wsL_act) B.pre
  have hown : s.vm.findClass RL = some m.cls := findClass_of_methodNamed B.named
  have hlocks := B.notSynchronized
  have hS : va_S (zA N0) s.heap s.heap [] := va_S.rf
  have hl := lv_entry ([.ref h, .int v]) (n := 5) (Nat.le_of_ble_eq_true rfl)
  rw [lg_entry_eq]
  generalize (lg_sl ([.ref h, .int v]) ++ List.replicate (5 - (lg_sl ([.ref h, .int v])).length) Slot.unset).toArray = ls at hl ⊢
  have hl : lv_has ls 5 [(0, .ref h), (1, .int v)] := hl
  refine lv_iload_n hx hb dL_act_0 rfl (lv_at hl 1 rfl) ?_
  refine lv_bipush (v := 22) hx hb dL_act_1 (by decide) ?_
  refine lv_ishr hx hb dL_act_3 ?_
  refine lv_bipush (v := 8) hx hb dL_act_4 (by decide) ?_
  refine vp_callSi ((va_runS (As := [.int (v >>> (22 &&& 31)), .int 8]) (rest := []) ⟨hx, hb, hml, hown, hts⟩ (c_L_low l (v >>> (22 &&& 31)) 8 (by decide)) (va_cwS 2 hts gL_act_L_low rfl rfl rfl (by decide +kernel) ⟨Nat.le_of_ble_eq_true rfl, Nat.le_of_ble_eq_true rfl⟩) ⟨zT.blind, zT.call⟩ rfl rfl hl.1 rfl (lv_room (Nat.le_of_ble_eq_true rfl)) dL_act_6 ⟨Nat.zero_le _, Nat.zero_le _⟩).run) (fun r_6 h_6 => ?_)
  have h_6 : r_6 = (zLo (v >>> (22 &&& 31)) 8) := h_6
  subst h_6
  refine lv_if_ne (tgt := 16) hx hb dL_act_9 (by decide) (fun c_9 => ?_) (fun c_9 => ?_)
  · refine lv_iconst (v := 0) hx hb dL_act_16 (by decide) ?_
    refine lv_istore_n (lv' := [(2, .int 0), (0, .ref h), (1, .int v)]) hx hb dL_act_17 rfl hl (by decide) rfl (fun ls hl => ?_)
    refine lv_iload_n hx hb dL_act_18 rfl (lv_at hl 2 rfl) ?_
    refine lv_iconst (v := 4) hx hb dL_act_19 (by decide) ?_
    refine lv_ishr hx hb dL_act_20 ?_
    refine lv_iload_n hx hb dL_act_21 rfl (lv_at hl 0 rfl) ?_
    refine lv_if_eq (tgt := 30) hx hb dL_act_22 (by decide) (fun _ => ?_) (fun c_22 => absurd c_22 (by decide))
    refine lv_iconst (v := 4) hx hb dL_act_30 (by decide) ?_
    refine vp_callSi ((va_runS (As := [.int (v >>> (4 &&& 31)), .int 4]) (rest := []) ⟨hx, hb, hml, hown, hts⟩ (c_L_low l (v >>> (4 &&& 31)) 4 (by decide)) (va_cwS 2 hts gL_act_L_low rfl rfl rfl (by decide +kernel) ⟨Nat.le_of_ble_eq_true rfl, Nat.le_of_ble_eq_true rfl⟩) ⟨zT.blind, zT.call⟩ rfl rfl hl.1 rfl (lv_room (Nat.le_of_ble_eq_true rfl)) dL_act_31 ⟨Nat.zero_le _, Nat.zero_le _⟩).run) (fun r_31 h_31 => ?_)
    have h_31 : r_31 = (zLo (v >>> (4 &&& 31)) 4) := h_31
    subst h_31
    refine lv_istore_n (lv' := [(3, .int (zLo (v >>> (4 &&& 31)) 4)), (2, .int 0), (0, .ref h), (1, .int v)]) hx hb dL_act_34 rfl hl (by decide) rfl (fun ls hl => ?_)
    refine lv_iload_n hx hb dL_act_35 rfl (lv_at hl 3 rfl) ?_
    refine lv_bipush (v := 6) hx hb dL_act_36 (by decide) ?_
    refine lv_ishr hx hb dL_act_38 ?_
    refine lv_iload_n hx hb dL_act_39 rfl (lv_at hl 1 rfl) ?_
    refine lv_if_eq (tgt := 49) hx hb dL_act_40 (by decide) (fun _ => ?_) (fun c_40 => absurd c_40 (by decide))
    refine lv_sipush (v := 12001) hx hb dL_act_49 (by decide) ?_
    refine vp_callSi ((va_runS (As := [.int (v >>> (6 &&& 31)), .int 12001]) (rest := []) ⟨hx, hb, hml, hown, hts⟩ (c_L_low l (v >>> (6 &&& 31)) 12001 (by decide)) (va_cwS 2 hts gL_act_L_low rfl rfl rfl (by decide +kernel) ⟨Nat.le_of_ble_eq_true rfl, Nat.le_of_ble_eq_true rfl⟩) ⟨zT.blind, zT.call⟩ rfl rfl hl.1 rfl (lv_room (Nat.le_of_ble_eq_true rfl)) dL_act_52 ⟨Nat.zero_le _, Nat.zero_le _⟩).run) (fun r_52 h_52 => ?_)
    have h_52 : r_52 = (zLo (v >>> (6 &&& 31)) 12001) := h_52
    subst h_52
    refine lv_istore (lv' := [(4, .int (zLo (v >>> (6 &&& 31)) 12001)), (3, .int (zLo (v >>> (4 &&& 31)) 4)), (2, .int 0), (0, .ref h), (1, .int v)]) hx hb dL_act_55 hl (by decide) rfl (fun ls hl => ?_)
    refine lv_iload_n hx hb dL_act_57 rfl (lv_at hl 4 rfl) ?_
    refine lv_bipush (v := 12) hx hb dL_act_58 (by decide) ?_
    refine vp_callSi ((va_runS (As := [.int v, .int 12]) (rest := []) ⟨hx, hb, hml, hown, hts⟩ (c_L_low l v 12 (by decide)) (va_cwS 2 hts gL_act_L_low rfl rfl rfl (by decide +kernel) ⟨Nat.le_of_ble_eq_true rfl, Nat.le_of_ble_eq_true rfl⟩) ⟨zT.blind, zT.call⟩ rfl rfl hl.1 rfl (lv_room (Nat.le_of_ble_eq_true rfl)) dL_act_60 ⟨Nat.zero_le _, Nat.zero_le _⟩).run) (fun r_60 h_60 => ?_)
    have h_60 : r_60 = (zLo v 12) := h_60
    subst h_60
    rw [show ((zLo v 12) : Int32) = (nI k) from hk]
    refine act_sw hx hb hk12 ?_
    rw [ht]
    refine lv_aload_n hx hb dL_act_282 rfl (lv_at hl 3 rfl) ?_
    refine lv_iload_n hx hb dL_act_283 rfl (lv_at hl 1 rfl) ?_
    refine lv_iload_n hx hb dL_act_284 rfl (lv_at hl 2 rfl) ?_
    refine lv_if_ne (tgt := 331) hx hb dL_act_285 (by decide) (fun c_285 => absurd c_285 (by decide)) (fun _ => ?_)
    refine lv_aload_n hx hb dL_act_288 rfl (lv_at hl 3 rfl) ?_
    refine lv_iload_n hx hb dL_act_289 rfl (lv_at hl 1 rfl) ?_
    refine vp_callSi ((va_runV (As := [.int (zLo (v >>> (4 &&& 31)) 4)]) (rest := [.int (zLo (v >>> (4 &&& 31)) 4), .ref h]) ⟨hx, hb, hml, hown, hts⟩ (c_X0_rungOf_v l D N0 cA cL E h d z c (zLo (v >>> (4 &&& 31)) 4) hw) (cwV 1 hts gL_act_X0_rungOf rfl rfl rfl (by decide +kernel) ⟨Nat.le_of_ble_eq_true rfl, Nat.le_of_ble_eq_true rfl⟩) ⟨zPre.blind, va_recv hK hP (ci := 0) (q0 := 0) rfl rfl, zPre.call hN hP hD hK hE hS⟩ rfl rfl hl.1 rfl (lv_room (Nat.le_of_ble_eq_true rfl)) dL_act_290 ⟨Nat.zero_le _, Nat.zero_le _⟩).run) (fun r_290 h_290 => ?_)
    have h_290 : r_290 = (z.1 (zLo (v >>> (4 &&& 31)) 4).toNatClampNeg) := h_290
    subst h_290
    refine lv_bipush (v := 100) hx hb dL_act_293 (by decide) ?_
    refine lv_icmp_le (tgt := 331) hx hb dL_act_295 (by decide) (fun c_295 => ?_) (fun c_295 => ?_)
    · refine lv_iload hx hb dL_act_331 (lv_at hl 0 rfl) ?_
      refine va_calli (vx_runSW (As := [.ref h, .int (zLo (v >>> (4 &&& 31)) 4), .int (zLo (v >>> (6 &&& 31)) 12001)]) (rest := []) ⟨hx, hb, hml, hown, hts⟩ (c_L_sing_v l D N0 cA cL E h d z c (zLo (v >>> (4 &&& 31)) 4) (zLo (v >>> (6 &&& 31)) 12001) hc hw hp) (vx_cwSW 3 hts gL_act_L_sing rfl rfl rfl (by decide +kernel) ⟨Nat.le_of_ble_eq_true rfl, Nat.le_of_ble_eq_true rfl⟩) ⟨zPre.blind, zPre.call hN hP hD hK hE hS⟩ rfl rfl hl.1 rfl (lv_room (Nat.le_of_ble_eq_true rfl)) dL_act_333 ⟨Nat.zero_le _, Nat.zero_le _⟩) hS (fun _ _ h9 => h9) (fun _ h9 => h9) (fun r_333 _ t H locs ht hvm h_333 hB hz1 hk1 hS => ?_)
      have h_333 : r_333 = (zOut c (zLo (v >>> (4 &&& 31)) 4).toNatClampNeg (zLo (v >>> (6 &&& 31)) 12001) z) := h_333
      subst h_333
      obtain ⟨hP, hD⟩ := hB
      rw [ht] at hP
      have hP : va_P D vwCl (wX h d cA (zSg c (zLo (v >>> (4 &&& 31)) 4).toNatClampNeg (zLo (v >>> (6 &&& 31)) 12001) z) c ++ E) H := hP
      have hD : va_D (zA N0) (wX h d cA (zSg c (zLo (v >>> (4 &&& 31)) 4).toNatClampNeg (zLo (v >>> (6 &&& 31)) 12001) z) c ++ E) := hD
      exact W.iret (v := (zOut c (zLo (v >>> (4 &&& 31)) 4).toNatClampNeg (zLo (v >>> (6 &&& 31)) 12001) z)) hx hb hr (fun t ht hW => ⟨⟨_, (), rfl, rfl, ⟨by rw [ht]; exact hP, hD⟩⟩, hS.F ht⟩) hS.2.2 dL_act_336
    · exact absurd g1 c_295
  · exact absurd c_9 ho

set_option maxHeartbeats 4000000 in
set_option maxRecDepth 100000 in
theorem c_L_act_near_eb (l : Launch) (D : va_G) (N0 : Nat) (cA cL : ClassId) (E : va_W) (h : Nat) (d : Nat → Nat) (z : S7) (c : C5) (v : Int32) (k : Nat) (hk : zLo v 12 = nI k) (hk12 : k < 12) (ht : zTg k = 282) (ho : ¬ zLo (v >>> (22 &&& 31)) 8 = 0) (g1 : ¬ zLe (z.1 (zLo (v >>> (4 &&& 31)) 4).toNatClampNeg) 100) (g2 : zLe 11900 (z.1 (zLo (v >>> (4 &&& 31)) 4).toNatClampNeg)) (hw : zw (zLo (v >>> (4 &&& 31)) 4)) (hp : zp (zLo (v >>> (6 &&& 31)) 12001)) (hc : okC c) : Met l yL_act wsL_act ({ frames := 10, cells := 0, slots := 0, locals := 300 }) (va_Pc [.ref h, .int v] (zPre D N0 cA cL (wX h d cA z c ++ E))) (va_Qi (fun (rv : Int32) (_ : Unit) => rv = zOut c (zLo (v >>> (4 &&& 31)) 4).toNatClampNeg (zLo (v >>> (6 &&& 31)) 12001) z) (fun _ t => zPost D N0 (wX h d cA (zSg c (zLo (v >>> (4 &&& 31)) 4).toNatClampNeg (zLo (v >>> (6 &&& 31)) 12001) z) c ++ E) t) (zA N0)) 0 0 (zA N0) := by
  refine Met.ofW (cc := cL_act) (maxL := 5) (ret := (some .int)) (by decide) rfl ?_
  intro pr e s m ag below meth cd s₁ B hml hv
  obtain ⟨rfl, hN, hP, hD, hK, hE⟩ := hv
  have hx := B.exec
  have hb := B.bytes
  have hr := B.returns
  have hts := atoms_spec (ws := wsL_act) B.pre
  have hown : s.vm.findClass RL = some m.cls := findClass_of_methodNamed B.named
  have hlocks := B.notSynchronized
  have hS : va_S (zA N0) s.heap s.heap [] := va_S.rf
  have hl := lv_entry ([.ref h, .int v]) (n := 5) (Nat.le_of_ble_eq_true rfl)
  rw [lg_entry_eq]
  generalize (lg_sl ([.ref h, .int v]) ++ List.replicate (5 - (lg_sl ([.ref h, .int v])).length) Slot.unset).toArray = ls at hl ⊢
  have hl : lv_has ls 5 [(0, .ref h), (1, .int v)] := hl
  refine lv_iload_n hx hb dL_act_0 rfl (lv_at hl 1 rfl) ?_
  refine lv_bipush (v := 22) hx hb dL_act_1 (by decide) ?_
  refine lv_ishr hx hb dL_act_3 ?_
  refine lv_bipush (v := 8) hx hb dL_act_4 (by decide) ?_
  refine vp_callSi ((va_runS (As := [.int (v >>> (22 &&& 31)), .int 8]) (rest := []) ⟨hx, hb, hml, hown, hts⟩ (c_L_low l (v >>> (22 &&& 31)) 8 (by decide)) (va_cwS 2 hts gL_act_L_low rfl rfl rfl (by decide +kernel) ⟨Nat.le_of_ble_eq_true rfl, Nat.le_of_ble_eq_true rfl⟩) ⟨zT.blind, zT.call⟩ rfl rfl hl.1 rfl (lv_room (Nat.le_of_ble_eq_true rfl)) dL_act_6 ⟨Nat.zero_le _, Nat.zero_le _⟩).run) (fun r_6 h_6 => ?_)
  have h_6 : r_6 = (zLo (v >>> (22 &&& 31)) 8) := h_6
  subst h_6
  refine lv_if_ne (tgt := 16) hx hb dL_act_9 (by decide) (fun c_9 => ?_) (fun c_9 => ?_)
  · refine lv_iconst (v := 0) hx hb dL_act_16 (by decide) ?_
    refine lv_istore_n (lv' := [(2, .int 0), (0, .ref h), (1, .int v)]) hx hb dL_act_17 rfl hl (by decide) rfl (fun ls hl => ?_)
    refine lv_iload_n hx hb dL_act_18 rfl (lv_at hl 2 rfl) ?_
    refine lv_iconst (v := 4) hx hb dL_act_19 (by decide) ?_
    refine lv_ishr hx hb dL_act_20 ?_
    refine lv_iload_n hx hb dL_act_21 rfl (lv_at hl 0 rfl) ?_
    refine lv_if_eq (tgt := 30) hx hb dL_act_22 (by decide) (fun _ => ?_) (fun c_22 => absurd c_22 (by decide))
    refine lv_iconst (v := 4) hx hb dL_act_30 (by decide) ?_
    refine vp_callSi ((va_runS (As := [.int (v >>> (4 &&& 31)), .int 4]) (rest := []) ⟨hx, hb, hml, hown, hts⟩ (c_L_low l (v >>> (4 &&& 31)) 4 (by decide)) (va_cwS 2 hts gL_act_L_low rfl rfl rfl (by decide +kernel) ⟨Nat.le_of_ble_eq_true rfl, Nat.le_of_ble_eq_true rfl⟩) ⟨zT.blind, zT.call⟩ rfl rfl hl.1 rfl (lv_room (Nat.le_of_ble_eq_true rfl)) dL_act_31 ⟨Nat.zero_le _, Nat.zero_le _⟩).run) (fun r_31 h_31 => ?_)
    have h_31 : r_31 = (zLo (v >>> (4 &&& 31)) 4) := h_31
    subst h_31
    refine lv_istore_n (lv' := [(3, .int (zLo (v >>> (4 &&& 31)) 4)), (2, .int 0), (0, .ref h), (1, .int v)]) hx hb dL_act_34 rfl hl (by decide) rfl (fun ls hl => ?_)
    refine lv_iload_n hx hb dL_act_35 rfl (lv_at hl 3 rfl) ?_
    refine lv_bipush (v := 6) hx hb dL_act_36 (by decide) ?_
    refine lv_ishr hx hb dL_act_38 ?_
    refine lv_iload_n hx hb dL_act_39 rfl (lv_at hl 1 rfl) ?_
    refine lv_if_eq (tgt := 49) hx hb dL_act_40 (by decide) (fun _ => ?_) (fun c_40 => absurd c_40 (by decide))
    refine lv_sipush (v := 12001) hx hb dL_act_49 (by decide) ?_
    refine vp_callSi ((va_runS (As := [.int (v >>> (6 &&& 31)), .int 12001]) (rest := []) ⟨hx, hb, hml, hown, hts⟩ (c_L_low l (v >>> (6 &&& 31)) 12001 (by decide)) (va_cwS 2 hts gL_act_L_low rfl rfl rfl (by decide +kernel) ⟨Nat.le_of_ble_eq_true rfl, Nat.le_of_ble_eq_true rfl⟩) ⟨zT.blind, zT.call⟩ rfl rfl hl.1 rfl (lv_room (Nat.le_of_ble_eq_true rfl)) dL_act_52 ⟨Nat.zero_le _, Nat.zero_le _⟩).run) (fun r_52 h_52 => ?_)
    have h_52 : r_52 = (zLo (v >>> (6 &&& 31)) 12001) := h_52
    subst h_52
    refine lv_istore (lv' := [(4, .int (zLo (v >>> (6 &&& 31)) 12001)), (3, .int (zLo (v >>> (4 &&& 31)) 4)), (2, .int 0), (0, .ref h), (1, .int v)]) hx hb dL_act_55 hl (by decide) rfl (fun ls hl => ?_)
    refine lv_iload_n hx hb dL_act_57 rfl (lv_at hl 4 rfl) ?_
    refine lv_bipush (v := 12) hx hb dL_act_58 (by decide) ?_
    refine vp_callSi ((va_runS (As := [.int v, .int 12]) (rest := []) ⟨hx, hb, hml, hown, hts⟩ (c_L_low l v 12 (by decide)) (va_cwS 2 hts gL_act_L_low rfl rfl rfl (by decide +kernel) ⟨Nat.le_of_ble_eq_true rfl, Nat.le_of_ble_eq_true rfl⟩) ⟨zT.blind, zT.call⟩ rfl rfl hl.1 rfl (lv_room (Nat.le_of_ble_eq_true rfl)) dL_act_60 ⟨Nat.zero_le _, Nat.zero_le _⟩).run) (fun r_60 h_60 => ?_)
    have h_60 : r_60 = (zLo v 12) := h_60
    subst h_60
    rw [show ((zLo v 12) : Int32) = (nI k) from hk]
    refine act_sw hx hb hk12 ?_
    rw [ht]
    refine lv_aload_n hx hb dL_act_282 rfl (lv_at hl 3 rfl) ?_
    refine lv_iload_n hx hb dL_act_283 rfl (lv_at hl 1 rfl) ?_
    refine lv_iload_n hx hb dL_act_284 rfl (lv_at hl 2 rfl) ?_
    refine lv_if_ne (tgt := 331) hx hb dL_act_285 (by decide) (fun c_285 => absurd c_285 (by decide)) (fun _ => ?_)
    refine lv_aload_n hx hb dL_act_288 rfl (lv_at hl 3 rfl) ?_
    refine lv_iload_n hx hb dL_act_289 rfl (lv_at hl 1 rfl) ?_
    refine vp_callSi ((va_runV (As := [.int (zLo (v >>> (4 &&& 31)) 4)]) (rest := [.int (zLo (v >>> (4 &&& 31)) 4), .ref h]) ⟨hx, hb, hml, hown, hts⟩ (c_X0_rungOf_v l D N0 cA cL E h d z c (zLo (v >>> (4 &&& 31)) 4) hw) (cwV 1 hts gL_act_X0_rungOf rfl rfl rfl (by decide +kernel) ⟨Nat.le_of_ble_eq_true rfl, Nat.le_of_ble_eq_true rfl⟩) ⟨zPre.blind, va_recv hK hP (ci := 0) (q0 := 0) rfl rfl, zPre.call hN hP hD hK hE hS⟩ rfl rfl hl.1 rfl (lv_room (Nat.le_of_ble_eq_true rfl)) dL_act_290 ⟨Nat.zero_le _, Nat.zero_le _⟩).run) (fun r_290 h_290 => ?_)
    have h_290 : r_290 = (z.1 (zLo (v >>> (4 &&& 31)) 4).toNatClampNeg) := h_290
    subst h_290
    refine lv_bipush (v := 100) hx hb dL_act_293 (by decide) ?_
    refine lv_icmp_le (tgt := 331) hx hb dL_act_295 (by decide) (fun c_295 => ?_) (fun c_295 => ?_)
    · exact absurd c_295 g1
    · refine lv_aload_n hx hb dL_act_298 rfl (lv_at hl 3 rfl) ?_
      refine lv_iload_n hx hb dL_act_299 rfl (lv_at hl 1 rfl) ?_
      refine vp_callSi ((va_runV (As := [.int (zLo (v >>> (4 &&& 31)) 4)]) (rest := [.int (zLo (v >>> (4 &&& 31)) 4), .ref h]) ⟨hx, hb, hml, hown, hts⟩ (c_X0_rungOf_v l D N0 cA cL E h d z c (zLo (v >>> (4 &&& 31)) 4) hw) (cwV 1 hts gL_act_X0_rungOf rfl rfl rfl (by decide +kernel) ⟨Nat.le_of_ble_eq_true rfl, Nat.le_of_ble_eq_true rfl⟩) ⟨zPre.blind, va_recv hK hP (ci := 0) (q0 := 0) rfl rfl, zPre.call hN hP hD hK hE hS⟩ rfl rfl hl.1 rfl (lv_room (Nat.le_of_ble_eq_true rfl)) dL_act_300 ⟨Nat.zero_le _, Nat.zero_le _⟩).run) (fun r_300 h_300 => ?_)
      have h_300 : r_300 = (z.1 (zLo (v >>> (4 &&& 31)) 4).toNatClampNeg) := h_300
      subst h_300
      refine lv_sipush (v := 11900) hx hb dL_act_303 (by decide) ?_
      refine lv_icmp_ge (tgt := 331) hx hb dL_act_306 (by decide) (fun c_306 => ?_) (fun c_306 => ?_)
      · refine lv_iload hx hb dL_act_331 (lv_at hl 0 rfl) ?_
        refine va_calli (vx_runSW (As := [.ref h, .int (zLo (v >>> (4 &&& 31)) 4), .int (zLo (v >>> (6 &&& 31)) 12001)]) (rest := []) ⟨hx, hb, hml, hown, hts⟩ (c_L_sing_v l D N0 cA cL E h d z c (zLo (v >>> (4 &&& 31)) 4) (zLo (v >>> (6 &&& 31)) 12001) hc hw hp) (vx_cwSW 3 hts gL_act_L_sing rfl rfl rfl (by decide +kernel) ⟨Nat.le_of_ble_eq_true rfl, Nat.le_of_ble_eq_true rfl⟩) ⟨zPre.blind, zPre.call hN hP hD hK hE hS⟩ rfl rfl hl.1 rfl (lv_room (Nat.le_of_ble_eq_true rfl)) dL_act_333 ⟨Nat.zero_le _, Nat.zero_le _⟩) hS (fun _ _ h9 => h9) (fun _ h9 => h9) (fun r_333 _ t H locs ht hvm h_333 hB hz1 hk1 hS => ?_)
        have h_333 : r_333 = (zOut c (zLo (v >>> (4 &&& 31)) 4).toNatClampNeg (zLo (v >>> (6 &&& 31)) 12001) z) := h_333
        subst h_333
        obtain ⟨hP, hD⟩ := hB
        rw [ht] at hP
        have hP : va_P D vwCl (wX h d cA (zSg c (zLo (v >>> (4 &&& 31)) 4).toNatClampNeg (zLo (v >>> (6 &&& 31)) 12001) z) c ++ E) H := hP
        have hD : va_D (zA N0) (wX h d cA (zSg c (zLo (v >>> (4 &&& 31)) 4).toNatClampNeg (zLo (v >>> (6 &&& 31)) 12001) z) c ++ E) := hD
        exact W.iret (v := (zOut c (zLo (v >>> (4 &&& 31)) 4).toNatClampNeg (zLo (v >>> (6 &&& 31)) 12001) z)) hx hb hr (fun t ht hW => ⟨⟨_, (), rfl, rfl, ⟨by rw [ht]; exact hP, hD⟩⟩, hS.F ht⟩) hS.2.2 dL_act_336
      · exact absurd g2 c_306
  · exact absurd c_9 ho

set_option maxHeartbeats 4000000 in
set_option maxRecDepth 100000 in
theorem c_L_act_near_ec (l : Launch) (D : va_G) (N0 : Nat) (cA cL : ClassId) (E : va_W) (h : Nat) (d : Nat → Nat) (z : S7) (c : C5) (v : Int32) (k : Nat) (hk : zLo v 12 = nI k) (hk12 : k < 12) (ht : zTg k = 282) (ho : ¬ zLo (v >>> (22 &&& 31)) 8 = 0) (g1 : ¬ zLe (z.1 (zLo (v >>> (4 &&& 31)) 4).toNatClampNeg) 100) (g2 : ¬ zLe 11900 (z.1 (zLo (v >>> (4 &&& 31)) 4).toNatClampNeg)) (hw : zw (zLo (v >>> (4 &&& 31)) 4)) (hp : zp (((z.1 (zLo (v >>> (4 &&& 31)) 4).toNatClampNeg) + (zLo (v >>> (6 &&& 31)) 161)) - 80)) (hc : okC c) : Met l yL_act wsL_act ({ frames := 10, cells := 0, slots := 0, locals := 300 }) (va_Pc [.ref h, .int v] (zPre D N0 cA cL (wX h d cA z c ++ E))) (va_Qi (fun (rv : Int32) (_ : Unit) => rv = zOut c (zLo (v >>> (4 &&& 31)) 4).toNatClampNeg (((z.1 (zLo (v >>> (4 &&& 31)) 4).toNatClampNeg) + (zLo (v >>> (6 &&& 31)) 161)) - 80) z) (fun _ t => zPost D N0 (wX h d cA (zSg c (zLo (v >>> (4 &&& 31)) 4).toNatClampNeg (((z.1 (zLo (v >>> (4 &&& 31)) 4).toNatClampNeg) + (zLo (v >>> (6 &&& 31)) 161)) - 80) z) c ++ E) t) (zA N0)) 0 0 (zA N0) := by
  refine Met.ofW (cc := cL_act) (maxL := 5) (ret := (some .int)) (by decide) rfl ?_
  intro pr e s m ag below meth cd s₁ B hml hv
  obtain ⟨rfl, hN, hP, hD, hK, hE⟩ := hv
  have hx := B.exec
  have hb := B.bytes
  have hr := B.returns
  have hts := atoms_spec (ws := wsL_act) B.pre
  have hown : s.vm.findClass RL = some m.cls := findClass_of_methodNamed B.named
  have hlocks := B.notSynchronized
  have hS : va_S (zA N0) s.heap s.heap [] := va_S.rf
  have hl := lv_entry ([.ref h, .int v]) (n := 5) (Nat.le_of_ble_eq_true rfl)
  rw [lg_entry_eq]
  generalize (lg_sl ([.ref h, .int v]) ++ List.replicate (5 - (lg_sl ([.ref h, .int v])).length) Slot.unset).toArray = ls at hl ⊢
  have hl : lv_has ls 5 [(0, .ref h), (1, .int v)] := hl
  refine lv_iload_n hx hb dL_act_0 rfl (lv_at hl 1 rfl) ?_
  refine lv_bipush (v := 22) hx hb dL_act_1 (by decide) ?_
  refine lv_ishr hx hb dL_act_3 ?_
  refine lv_bipush (v := 8) hx hb dL_act_4 (by decide) ?_
  refine vp_callSi ((va_runS (As := [.int (v >>> (22 &&& 31)), .int 8]) (rest := []) ⟨hx, hb, hml, hown, hts⟩ (c_L_low l (v >>> (22 &&& 31)) 8 (by decide)) (va_cwS 2 hts gL_act_L_low rfl rfl rfl (by decide +kernel) ⟨Nat.le_of_ble_eq_true rfl, Nat.le_of_ble_eq_true rfl⟩) ⟨zT.blind, zT.call⟩ rfl rfl hl.1 rfl (lv_room (Nat.le_of_ble_eq_true rfl)) dL_act_6 ⟨Nat.zero_le _, Nat.zero_le _⟩).run) (fun r_6 h_6 => ?_)
  have h_6 : r_6 = (zLo (v >>> (22 &&& 31)) 8) := h_6
  subst h_6
  refine lv_if_ne (tgt := 16) hx hb dL_act_9 (by decide) (fun c_9 => ?_) (fun c_9 => ?_)
  · refine lv_iconst (v := 0) hx hb dL_act_16 (by decide) ?_
    refine lv_istore_n (lv' := [(2, .int 0), (0, .ref h), (1, .int v)]) hx hb dL_act_17 rfl hl (by decide) rfl (fun ls hl => ?_)
    refine lv_iload_n hx hb dL_act_18 rfl (lv_at hl 2 rfl) ?_
    refine lv_iconst (v := 4) hx hb dL_act_19 (by decide) ?_
    refine lv_ishr hx hb dL_act_20 ?_
    refine lv_iload_n hx hb dL_act_21 rfl (lv_at hl 0 rfl) ?_
    refine lv_if_eq (tgt := 30) hx hb dL_act_22 (by decide) (fun _ => ?_) (fun c_22 => absurd c_22 (by decide))
    refine lv_iconst (v := 4) hx hb dL_act_30 (by decide) ?_
    refine vp_callSi ((va_runS (As := [.int (v >>> (4 &&& 31)), .int 4]) (rest := []) ⟨hx, hb, hml, hown, hts⟩ (c_L_low l (v >>> (4 &&& 31)) 4 (by decide)) (va_cwS 2 hts gL_act_L_low rfl rfl rfl (by decide +kernel) ⟨Nat.le_of_ble_eq_true rfl, Nat.le_of_ble_eq_true rfl⟩) ⟨zT.blind, zT.call⟩ rfl rfl hl.1 rfl (lv_room (Nat.le_of_ble_eq_true rfl)) dL_act_31 ⟨Nat.zero_le _, Nat.zero_le _⟩).run) (fun r_31 h_31 => ?_)
    have h_31 : r_31 = (zLo (v >>> (4 &&& 31)) 4) := h_31
    subst h_31
    refine lv_istore_n (lv' := [(3, .int (zLo (v >>> (4 &&& 31)) 4)), (2, .int 0), (0, .ref h), (1, .int v)]) hx hb dL_act_34 rfl hl (by decide) rfl (fun ls hl => ?_)
    refine lv_iload_n hx hb dL_act_35 rfl (lv_at hl 3 rfl) ?_
    refine lv_bipush (v := 6) hx hb dL_act_36 (by decide) ?_
    refine lv_ishr hx hb dL_act_38 ?_
    refine lv_iload_n hx hb dL_act_39 rfl (lv_at hl 1 rfl) ?_
    refine lv_if_eq (tgt := 49) hx hb dL_act_40 (by decide) (fun _ => ?_) (fun c_40 => absurd c_40 (by decide))
    refine lv_sipush (v := 12001) hx hb dL_act_49 (by decide) ?_
    refine vp_callSi ((va_runS (As := [.int (v >>> (6 &&& 31)), .int 12001]) (rest := []) ⟨hx, hb, hml, hown, hts⟩ (c_L_low l (v >>> (6 &&& 31)) 12001 (by decide)) (va_cwS 2 hts gL_act_L_low rfl rfl rfl (by decide +kernel) ⟨Nat.le_of_ble_eq_true rfl, Nat.le_of_ble_eq_true rfl⟩) ⟨zT.blind, zT.call⟩ rfl rfl hl.1 rfl (lv_room (Nat.le_of_ble_eq_true rfl)) dL_act_52 ⟨Nat.zero_le _, Nat.zero_le _⟩).run) (fun r_52 h_52 => ?_)
    have h_52 : r_52 = (zLo (v >>> (6 &&& 31)) 12001) := h_52
    subst h_52
    refine lv_istore (lv' := [(4, .int (zLo (v >>> (6 &&& 31)) 12001)), (3, .int (zLo (v >>> (4 &&& 31)) 4)), (2, .int 0), (0, .ref h), (1, .int v)]) hx hb dL_act_55 hl (by decide) rfl (fun ls hl => ?_)
    refine lv_iload_n hx hb dL_act_57 rfl (lv_at hl 4 rfl) ?_
    refine lv_bipush (v := 12) hx hb dL_act_58 (by decide) ?_
    refine vp_callSi ((va_runS (As := [.int v, .int 12]) (rest := []) ⟨hx, hb, hml, hown, hts⟩ (c_L_low l v 12 (by decide)) (va_cwS 2 hts gL_act_L_low rfl rfl rfl (by decide +kernel) ⟨Nat.le_of_ble_eq_true rfl, Nat.le_of_ble_eq_true rfl⟩) ⟨zT.blind, zT.call⟩ rfl rfl hl.1 rfl (lv_room (Nat.le_of_ble_eq_true rfl)) dL_act_60 ⟨Nat.zero_le _, Nat.zero_le _⟩).run) (fun r_60 h_60 => ?_)
    have h_60 : r_60 = (zLo v 12) := h_60
    subst h_60
    rw [show ((zLo v 12) : Int32) = (nI k) from hk]
    refine act_sw hx hb hk12 ?_
    rw [ht]
    refine lv_aload_n hx hb dL_act_282 rfl (lv_at hl 3 rfl) ?_
    refine lv_iload_n hx hb dL_act_283 rfl (lv_at hl 1 rfl) ?_
    refine lv_iload_n hx hb dL_act_284 rfl (lv_at hl 2 rfl) ?_
    refine lv_if_ne (tgt := 331) hx hb dL_act_285 (by decide) (fun c_285 => absurd c_285 (by decide)) (fun _ => ?_)
    refine lv_aload_n hx hb dL_act_288 rfl (lv_at hl 3 rfl) ?_
    refine lv_iload_n hx hb dL_act_289 rfl (lv_at hl 1 rfl) ?_
    refine vp_callSi ((va_runV (As := [.int (zLo (v >>> (4 &&& 31)) 4)]) (rest := [.int (zLo (v >>> (4 &&& 31)) 4), .ref h]) ⟨hx, hb, hml, hown, hts⟩ (c_X0_rungOf_v l D N0 cA cL E h d z c (zLo (v >>> (4 &&& 31)) 4) hw) (cwV 1 hts gL_act_X0_rungOf rfl rfl rfl (by decide +kernel) ⟨Nat.le_of_ble_eq_true rfl, Nat.le_of_ble_eq_true rfl⟩) ⟨zPre.blind, va_recv hK hP (ci := 0) (q0 := 0) rfl rfl, zPre.call hN hP hD hK hE hS⟩ rfl rfl hl.1 rfl (lv_room (Nat.le_of_ble_eq_true rfl)) dL_act_290 ⟨Nat.zero_le _, Nat.zero_le _⟩).run) (fun r_290 h_290 => ?_)
    have h_290 : r_290 = (z.1 (zLo (v >>> (4 &&& 31)) 4).toNatClampNeg) := h_290
    subst h_290
    refine lv_bipush (v := 100) hx hb dL_act_293 (by decide) ?_
    refine lv_icmp_le (tgt := 331) hx hb dL_act_295 (by decide) (fun c_295 => ?_) (fun c_295 => ?_)
    · exact absurd c_295 g1
    · refine lv_aload_n hx hb dL_act_298 rfl (lv_at hl 3 rfl) ?_
      refine lv_iload_n hx hb dL_act_299 rfl (lv_at hl 1 rfl) ?_
      refine vp_callSi ((va_runV (As := [.int (zLo (v >>> (4 &&& 31)) 4)]) (rest := [.int (zLo (v >>> (4 &&& 31)) 4), .ref h]) ⟨hx, hb, hml, hown, hts⟩ (c_X0_rungOf_v l D N0 cA cL E h d z c (zLo (v >>> (4 &&& 31)) 4) hw) (cwV 1 hts gL_act_X0_rungOf rfl rfl rfl (by decide +kernel) ⟨Nat.le_of_ble_eq_true rfl, Nat.le_of_ble_eq_true rfl⟩) ⟨zPre.blind, va_recv hK hP (ci := 0) (q0 := 0) rfl rfl, zPre.call hN hP hD hK hE hS⟩ rfl rfl hl.1 rfl (lv_room (Nat.le_of_ble_eq_true rfl)) dL_act_300 ⟨Nat.zero_le _, Nat.zero_le _⟩).run) (fun r_300 h_300 => ?_)
      have h_300 : r_300 = (z.1 (zLo (v >>> (4 &&& 31)) 4).toNatClampNeg) := h_300
      subst h_300
      refine lv_sipush (v := 11900) hx hb dL_act_303 (by decide) ?_
      refine lv_icmp_ge (tgt := 331) hx hb dL_act_306 (by decide) (fun c_306 => ?_) (fun c_306 => ?_)
      · exact absurd c_306 g2
      · refine lv_aload_n hx hb dL_act_309 rfl (lv_at hl 3 rfl) ?_
        refine lv_iload_n hx hb dL_act_310 rfl (lv_at hl 1 rfl) ?_
        refine vp_callSi ((va_runV (As := [.int (zLo (v >>> (4 &&& 31)) 4)]) (rest := [.int (zLo (v >>> (4 &&& 31)) 4), .ref h]) ⟨hx, hb, hml, hown, hts⟩ (c_X0_rungOf_v l D N0 cA cL E h d z c (zLo (v >>> (4 &&& 31)) 4) hw) (cwV 1 hts gL_act_X0_rungOf rfl rfl rfl (by decide +kernel) ⟨Nat.le_of_ble_eq_true rfl, Nat.le_of_ble_eq_true rfl⟩) ⟨zPre.blind, va_recv hK hP (ci := 0) (q0 := 0) rfl rfl, zPre.call hN hP hD hK hE hS⟩ rfl rfl hl.1 rfl (lv_room (Nat.le_of_ble_eq_true rfl)) dL_act_311 ⟨Nat.zero_le _, Nat.zero_le _⟩).run) (fun r_311 h_311 => ?_)
        have h_311 : r_311 = (z.1 (zLo (v >>> (4 &&& 31)) 4).toNatClampNeg) := h_311
        subst h_311
        refine lv_iload_n hx hb dL_act_314 rfl (lv_at hl 4 rfl) ?_
        refine lv_bipush (v := 6) hx hb dL_act_315 (by decide) ?_
        refine lv_ishr hx hb dL_act_317 ?_
        refine lv_sipush (v := 161) hx hb dL_act_318 (by decide) ?_
        refine vp_callSi ((va_runS (As := [.int (v >>> (6 &&& 31)), .int 161]) (rest := [.int (z.1 (zLo (v >>> (4 &&& 31)) 4).toNatClampNeg), .int (zLo (v >>> (4 &&& 31)) 4), .ref h]) ⟨hx, hb, hml, hown, hts⟩ (c_L_low l (v >>> (6 &&& 31)) 161 (by decide)) (va_cwS 2 hts gL_act_L_low rfl rfl rfl (by decide +kernel) ⟨Nat.le_of_ble_eq_true rfl, Nat.le_of_ble_eq_true rfl⟩) ⟨zT.blind, zT.call⟩ rfl rfl hl.1 rfl (lv_room (Nat.le_of_ble_eq_true rfl)) dL_act_321 ⟨Nat.zero_le _, Nat.zero_le _⟩).run) (fun r_321 h_321 => ?_)
        have h_321 : r_321 = (zLo (v >>> (6 &&& 31)) 161) := h_321
        subst h_321
        refine lv_iadd hx hb dL_act_324 ?_
        refine lv_bipush (v := 80) hx hb dL_act_325 (by decide) ?_
        refine lv_isub hx hb dL_act_327 ?_
        refine lv_goto (tgt := 333) hx hb dL_act_328 (by decide) ?_
        refine va_calli (vx_runSW (As := [.ref h, .int (zLo (v >>> (4 &&& 31)) 4), .int (((z.1 (zLo (v >>> (4 &&& 31)) 4).toNatClampNeg) + (zLo (v >>> (6 &&& 31)) 161)) - 80)]) (rest := []) ⟨hx, hb, hml, hown, hts⟩ (c_L_sing_v l D N0 cA cL E h d z c (zLo (v >>> (4 &&& 31)) 4) (((z.1 (zLo (v >>> (4 &&& 31)) 4).toNatClampNeg) + (zLo (v >>> (6 &&& 31)) 161)) - 80) hc hw hp) (vx_cwSW 3 hts gL_act_L_sing rfl rfl rfl (by decide +kernel) ⟨Nat.le_of_ble_eq_true rfl, Nat.le_of_ble_eq_true rfl⟩) ⟨zPre.blind, zPre.call hN hP hD hK hE hS⟩ rfl rfl hl.1 rfl (lv_room (Nat.le_of_ble_eq_true rfl)) dL_act_333 ⟨Nat.zero_le _, Nat.zero_le _⟩) hS (fun _ _ h9 => h9) (fun _ h9 => h9) (fun r_333 _ t H locs ht hvm h_333 hB hz1 hk1 hS => ?_)
        have h_333 : r_333 = (zOut c (zLo (v >>> (4 &&& 31)) 4).toNatClampNeg (((z.1 (zLo (v >>> (4 &&& 31)) 4).toNatClampNeg) + (zLo (v >>> (6 &&& 31)) 161)) - 80) z) := h_333
        subst h_333
        obtain ⟨hP, hD⟩ := hB
        rw [ht] at hP
        have hP : va_P D vwCl (wX h d cA (zSg c (zLo (v >>> (4 &&& 31)) 4).toNatClampNeg (((z.1 (zLo (v >>> (4 &&& 31)) 4).toNatClampNeg) + (zLo (v >>> (6 &&& 31)) 161)) - 80) z) c ++ E) H := hP
        have hD : va_D (zA N0) (wX h d cA (zSg c (zLo (v >>> (4 &&& 31)) 4).toNatClampNeg (((z.1 (zLo (v >>> (4 &&& 31)) 4).toNatClampNeg) + (zLo (v >>> (6 &&& 31)) 161)) - 80) z) c ++ E) := hD
        exact W.iret (v := (zOut c (zLo (v >>> (4 &&& 31)) 4).toNatClampNeg (((z.1 (zLo (v >>> (4 &&& 31)) 4).toNatClampNeg) + (zLo (v >>> (6 &&& 31)) 161)) - 80) z)) hx hb hr (fun t ht hW => ⟨⟨_, (), rfl, rfl, ⟨by rw [ht]; exact hP, hD⟩⟩, hS.F ht⟩) hS.2.2 dL_act_336
  · exact absurd c_9 ho

set_option maxHeartbeats 4000000 in
set_option maxRecDepth 100000 in
theorem c_L_act_near_o (l : Launch) (D : va_G) (N0 : Nat) (cA cL : ClassId) (E : va_W) (h : Nat) (d : Nat → Nat) (z : S7) (c : C5) (v : Int32) (k : Nat) (hk : zLo v 12 = nI k) (hk12 : k < 12) (ht : zTg k = 282) (ho : zLo (v >>> (22 &&& 31)) 8 = 0) (hw : zw (zLo (v >>> (4 &&& 31)) 6)) (hp : zp (zLo (v >>> (6 &&& 31)) 13000)) (hc : okC c) : Met l yL_act wsL_act ({ frames := 10, cells := 0, slots := 0, locals := 300 }) (va_Pc [.ref h, .int v] (zPre D N0 cA cL (wX h d cA z c ++ E))) (va_Qi (fun (rv : Int32) (_ : Unit) => rv = zOut c (zLo (v >>> (4 &&& 31)) 6).toNatClampNeg (zLo (v >>> (6 &&& 31)) 13000) z) (fun _ t => zPost D N0 (wX h d cA (zSg c (zLo (v >>> (4 &&& 31)) 6).toNatClampNeg (zLo (v >>> (6 &&& 31)) 13000) z) c ++ E) t) (zA N0)) 0 0 (zA N0) := by
  refine Met.ofW (cc := cL_act) (maxL := 5) (ret := (some .int)) (by decide) rfl ?_
  intro pr e s m ag below meth cd s₁ B hml hv
  obtain ⟨rfl, hN, hP, hD, hK, hE⟩ := hv
  have hx := B.exec
  have hb := B.bytes
  have hr := B.returns
  have hts := atoms_spec (ws := wsL_act) B.pre
  have hown : s.vm.findClass RL = some m.cls := findClass_of_methodNamed B.named
  have hlocks := B.notSynchronized
  have hS : va_S (zA N0) s.heap s.heap [] := va_S.rf
  have hl := lv_entry ([.ref h, .int v]) (n := 5) (Nat.le_of_ble_eq_true rfl)
  rw [lg_entry_eq]
  generalize (lg_sl ([.ref h, .int v]) ++ List.replicate (5 - (lg_sl ([.ref h, .int v])).length) Slot.unset).toArray = ls at hl ⊢
  have hl : lv_has ls 5 [(0, .ref h), (1, .int v)] := hl
  refine lv_iload_n hx hb dL_act_0 rfl (lv_at hl 1 rfl) ?_
  refine lv_bipush (v := 22) hx hb dL_act_1 (by decide) ?_
  refine lv_ishr hx hb dL_act_3 ?_
  refine lv_bipush (v := 8) hx hb dL_act_4 (by decide) ?_
  refine vp_callSi ((va_runS (As := [.int (v >>> (22 &&& 31)), .int 8]) (rest := []) ⟨hx, hb, hml, hown, hts⟩ (c_L_low l (v >>> (22 &&& 31)) 8 (by decide)) (va_cwS 2 hts gL_act_L_low rfl rfl rfl (by decide +kernel) ⟨Nat.le_of_ble_eq_true rfl, Nat.le_of_ble_eq_true rfl⟩) ⟨zT.blind, zT.call⟩ rfl rfl hl.1 rfl (lv_room (Nat.le_of_ble_eq_true rfl)) dL_act_6 ⟨Nat.zero_le _, Nat.zero_le _⟩).run) (fun r_6 h_6 => ?_)
  have h_6 : r_6 = (zLo (v >>> (22 &&& 31)) 8) := h_6
  subst h_6
  refine lv_if_ne (tgt := 16) hx hb dL_act_9 (by decide) (fun c_9 => ?_) (fun c_9 => ?_)
  · exact absurd ho c_9
  · refine lv_iconst (v := 1) hx hb dL_act_12 (by decide) ?_
    refine lv_goto (tgt := 17) hx hb dL_act_13 (by decide) ?_
    refine lv_istore_n (lv' := [(2, .int 1), (0, .ref h), (1, .int v)]) hx hb dL_act_17 rfl hl (by decide) rfl (fun ls hl => ?_)
    refine lv_iload_n hx hb dL_act_18 rfl (lv_at hl 2 rfl) ?_
    refine lv_iconst (v := 4) hx hb dL_act_19 (by decide) ?_
    refine lv_ishr hx hb dL_act_20 ?_
    refine lv_iload_n hx hb dL_act_21 rfl (lv_at hl 0 rfl) ?_
    refine lv_if_eq (tgt := 30) hx hb dL_act_22 (by decide) (fun c_22 => absurd c_22 (by decide)) (fun _ => ?_)
    refine lv_bipush (v := 6) hx hb dL_act_25 (by decide) ?_
    refine lv_goto (tgt := 31) hx hb dL_act_27 (by decide) ?_
    refine vp_callSi ((va_runS (As := [.int (v >>> (4 &&& 31)), .int 6]) (rest := []) ⟨hx, hb, hml, hown, hts⟩ (c_L_low l (v >>> (4 &&& 31)) 6 (by decide)) (va_cwS 2 hts gL_act_L_low rfl rfl rfl (by decide +kernel) ⟨Nat.le_of_ble_eq_true rfl, Nat.le_of_ble_eq_true rfl⟩) ⟨zT.blind, zT.call⟩ rfl rfl hl.1 rfl (lv_room (Nat.le_of_ble_eq_true rfl)) dL_act_31 ⟨Nat.zero_le _, Nat.zero_le _⟩).run) (fun r_31 h_31 => ?_)
    have h_31 : r_31 = (zLo (v >>> (4 &&& 31)) 6) := h_31
    subst h_31
    refine lv_istore_n (lv' := [(3, .int (zLo (v >>> (4 &&& 31)) 6)), (2, .int 1), (0, .ref h), (1, .int v)]) hx hb dL_act_34 rfl hl (by decide) rfl (fun ls hl => ?_)
    refine lv_iload_n hx hb dL_act_35 rfl (lv_at hl 3 rfl) ?_
    refine lv_bipush (v := 6) hx hb dL_act_36 (by decide) ?_
    refine lv_ishr hx hb dL_act_38 ?_
    refine lv_iload_n hx hb dL_act_39 rfl (lv_at hl 1 rfl) ?_
    refine lv_if_eq (tgt := 49) hx hb dL_act_40 (by decide) (fun c_40 => absurd c_40 (by decide)) (fun _ => ?_)
    refine lv_sipush (v := 13000) hx hb dL_act_43 (by decide) ?_
    refine lv_goto (tgt := 52) hx hb dL_act_46 (by decide) ?_
    refine vp_callSi ((va_runS (As := [.int (v >>> (6 &&& 31)), .int 13000]) (rest := []) ⟨hx, hb, hml, hown, hts⟩ (c_L_low l (v >>> (6 &&& 31)) 13000 (by decide)) (va_cwS 2 hts gL_act_L_low rfl rfl rfl (by decide +kernel) ⟨Nat.le_of_ble_eq_true rfl, Nat.le_of_ble_eq_true rfl⟩) ⟨zT.blind, zT.call⟩ rfl rfl hl.1 rfl (lv_room (Nat.le_of_ble_eq_true rfl)) dL_act_52 ⟨Nat.zero_le _, Nat.zero_le _⟩).run) (fun r_52 h_52 => ?_)
    have h_52 : r_52 = (zLo (v >>> (6 &&& 31)) 13000) := h_52
    subst h_52
    refine lv_istore (lv' := [(4, .int (zLo (v >>> (6 &&& 31)) 13000)), (3, .int (zLo (v >>> (4 &&& 31)) 6)), (2, .int 1), (0, .ref h), (1, .int v)]) hx hb dL_act_55 hl (by decide) rfl (fun ls hl => ?_)
    refine lv_iload_n hx hb dL_act_57 rfl (lv_at hl 4 rfl) ?_
    refine lv_bipush (v := 12) hx hb dL_act_58 (by decide) ?_
    refine vp_callSi ((va_runS (As := [.int v, .int 12]) (rest := []) ⟨hx, hb, hml, hown, hts⟩ (c_L_low l v 12 (by decide)) (va_cwS 2 hts gL_act_L_low rfl rfl rfl (by decide +kernel) ⟨Nat.le_of_ble_eq_true rfl, Nat.le_of_ble_eq_true rfl⟩) ⟨zT.blind, zT.call⟩ rfl rfl hl.1 rfl (lv_room (Nat.le_of_ble_eq_true rfl)) dL_act_60 ⟨Nat.zero_le _, Nat.zero_le _⟩).run) (fun r_60 h_60 => ?_)
    have h_60 : r_60 = (zLo v 12) := h_60
    subst h_60
    rw [show ((zLo v 12) : Int32) = (nI k) from hk]
    refine act_sw hx hb hk12 ?_
    rw [ht]
    refine lv_aload_n hx hb dL_act_282 rfl (lv_at hl 3 rfl) ?_
    refine lv_iload_n hx hb dL_act_283 rfl (lv_at hl 1 rfl) ?_
    refine lv_iload_n hx hb dL_act_284 rfl (lv_at hl 2 rfl) ?_
    refine lv_if_ne (tgt := 331) hx hb dL_act_285 (by decide) (fun _ => ?_) (fun c_285 => absurd c_285 (by decide))
    refine lv_iload hx hb dL_act_331 (lv_at hl 0 rfl) ?_
    refine va_calli (vx_runSW (As := [.ref h, .int (zLo (v >>> (4 &&& 31)) 6), .int (zLo (v >>> (6 &&& 31)) 13000)]) (rest := []) ⟨hx, hb, hml, hown, hts⟩ (c_L_sing_v l D N0 cA cL E h d z c (zLo (v >>> (4 &&& 31)) 6) (zLo (v >>> (6 &&& 31)) 13000) hc hw hp) (vx_cwSW 3 hts gL_act_L_sing rfl rfl rfl (by decide +kernel) ⟨Nat.le_of_ble_eq_true rfl, Nat.le_of_ble_eq_true rfl⟩) ⟨zPre.blind, zPre.call hN hP hD hK hE hS⟩ rfl rfl hl.1 rfl (lv_room (Nat.le_of_ble_eq_true rfl)) dL_act_333 ⟨Nat.zero_le _, Nat.zero_le _⟩) hS (fun _ _ h9 => h9) (fun _ h9 => h9) (fun r_333 _ t H locs ht hvm h_333 hB hz1 hk1 hS => ?_)
    have h_333 : r_333 = (zOut c (zLo (v >>> (4 &&& 31)) 6).toNatClampNeg (zLo (v >>> (6 &&& 31)) 13000) z) := h_333
    subst h_333
    obtain ⟨hP, hD⟩ := hB
    rw [ht] at hP
    have hP : va_P D vwCl (wX h d cA (zSg c (zLo (v >>> (4 &&& 31)) 6).toNatClampNeg (zLo (v >>> (6 &&& 31)) 13000) z) c ++ E) H := hP
    have hD : va_D (zA N0) (wX h d cA (zSg c (zLo (v >>> (4 &&& 31)) 6).toNatClampNeg (zLo (v >>> (6 &&& 31)) 13000) z) c ++ E) := hD
    exact W.iret (v := (zOut c (zLo (v >>> (4 &&& 31)) 6).toNatClampNeg (zLo (v >>> (6 &&& 31)) 13000) z)) hx hb hr (fun t ht hW => ⟨⟨_, (), rfl, rfl, ⟨by rw [ht]; exact hP, hD⟩⟩, hS.F ht⟩) hS.2.2 dL_act_336

set_option maxHeartbeats 4000000 in
set_option maxRecDepth 100000 in
theorem c_L_act_near_x1 (l : Launch) (hst : l.stackTraces = false) (D : va_G) (N0 : Nat) (cA cL : ClassId) (E : va_W) (h : Nat) (d : Nat → Nat) (z : S7) (c : C5) (v : Int32) (k : Nat) (hk : zLo v 12 = nI k) (hk12 : k < 12) (ht : zTg k = 282) (ho : zLo (v >>> (22 &&& 31)) 8 = 0) (hw : ¬ zw (zLo (v >>> (4 &&& 31)) 6)) : Met l yL_act wsL_act ({ frames := 10, cells := 1, slots := 6, locals := 300 }) (va_Pc [.ref h, .int v] (zPre D N0 cA cL (wX h d cA z c ++ E))) (va_Qi (fun (rv : Int32) (_ : Unit) => rv = (-99999)) (fun _ t => zPost D N0 (wX h d cA z c ++ E) t) (zA N0)) 1 6 (zA N0) := by
  refine Met.ofW (cc := cL_act) (maxL := 5) (ret := (some .int)) (by decide) rfl ?_
  intro pr e s m ag below meth cd s₁ B hml hv
  obtain ⟨rfl, hN, hP, hD, hK, hE⟩ := hv
  have hx := B.exec
  have hb := B.bytes
  have hr := B.returns
  have hts := atoms_spec (ws := wsL_act) B.pre
  have hown : s.vm.findClass RL = some m.cls := findClass_of_methodNamed B.named
  have hlocks := B.notSynchronized
  have hS : va_S (zA N0) s.heap s.heap [] := va_S.rf
  have hl := lv_entry ([.ref h, .int v]) (n := 5) (Nat.le_of_ble_eq_true rfl)
  rw [lg_entry_eq]
  generalize (lg_sl ([.ref h, .int v]) ++ List.replicate (5 - (lg_sl ([.ref h, .int v])).length) Slot.unset).toArray = ls at hl ⊢
  have hl : lv_has ls 5 [(0, .ref h), (1, .int v)] := hl
  refine lv_iload_n hx hb dL_act_0 rfl (lv_at hl 1 rfl) ?_
  refine lv_bipush (v := 22) hx hb dL_act_1 (by decide) ?_
  refine lv_ishr hx hb dL_act_3 ?_
  refine lv_bipush (v := 8) hx hb dL_act_4 (by decide) ?_
  refine vp_callSi ((va_runS (As := [.int (v >>> (22 &&& 31)), .int 8]) (rest := []) ⟨hx, hb, hml, hown, hts⟩ (c_L_low l (v >>> (22 &&& 31)) 8 (by decide)) (va_cwS 2 hts gL_act_L_low rfl rfl rfl (by decide +kernel) ⟨Nat.le_of_ble_eq_true rfl, Nat.le_of_ble_eq_true rfl⟩) ⟨zT.blind, zT.call⟩ rfl rfl hl.1 rfl (lv_room (Nat.le_of_ble_eq_true rfl)) dL_act_6 ⟨Nat.zero_le _, Nat.zero_le _⟩).run) (fun r_6 h_6 => ?_)
  have h_6 : r_6 = (zLo (v >>> (22 &&& 31)) 8) := h_6
  subst h_6
  refine lv_if_ne (tgt := 16) hx hb dL_act_9 (by decide) (fun c_9 => ?_) (fun c_9 => ?_)
  · exact absurd ho c_9
  · refine lv_iconst (v := 1) hx hb dL_act_12 (by decide) ?_
    refine lv_goto (tgt := 17) hx hb dL_act_13 (by decide) ?_
    refine lv_istore_n (lv' := [(2, .int 1), (0, .ref h), (1, .int v)]) hx hb dL_act_17 rfl hl (by decide) rfl (fun ls hl => ?_)
    refine lv_iload_n hx hb dL_act_18 rfl (lv_at hl 2 rfl) ?_
    refine lv_iconst (v := 4) hx hb dL_act_19 (by decide) ?_
    refine lv_ishr hx hb dL_act_20 ?_
    refine lv_iload_n hx hb dL_act_21 rfl (lv_at hl 0 rfl) ?_
    refine lv_if_eq (tgt := 30) hx hb dL_act_22 (by decide) (fun c_22 => absurd c_22 (by decide)) (fun _ => ?_)
    refine lv_bipush (v := 6) hx hb dL_act_25 (by decide) ?_
    refine lv_goto (tgt := 31) hx hb dL_act_27 (by decide) ?_
    refine vp_callSi ((va_runS (As := [.int (v >>> (4 &&& 31)), .int 6]) (rest := []) ⟨hx, hb, hml, hown, hts⟩ (c_L_low l (v >>> (4 &&& 31)) 6 (by decide)) (va_cwS 2 hts gL_act_L_low rfl rfl rfl (by decide +kernel) ⟨Nat.le_of_ble_eq_true rfl, Nat.le_of_ble_eq_true rfl⟩) ⟨zT.blind, zT.call⟩ rfl rfl hl.1 rfl (lv_room (Nat.le_of_ble_eq_true rfl)) dL_act_31 ⟨Nat.zero_le _, Nat.zero_le _⟩).run) (fun r_31 h_31 => ?_)
    have h_31 : r_31 = (zLo (v >>> (4 &&& 31)) 6) := h_31
    subst h_31
    refine lv_istore_n (lv' := [(3, .int (zLo (v >>> (4 &&& 31)) 6)), (2, .int 1), (0, .ref h), (1, .int v)]) hx hb dL_act_34 rfl hl (by decide) rfl (fun ls hl => ?_)
    refine lv_iload_n hx hb dL_act_35 rfl (lv_at hl 3 rfl) ?_
    refine lv_bipush (v := 6) hx hb dL_act_36 (by decide) ?_
    refine lv_ishr hx hb dL_act_38 ?_
    refine lv_iload_n hx hb dL_act_39 rfl (lv_at hl 1 rfl) ?_
    refine lv_if_eq (tgt := 49) hx hb dL_act_40 (by decide) (fun c_40 => absurd c_40 (by decide)) (fun _ => ?_)
    refine lv_sipush (v := 13000) hx hb dL_act_43 (by decide) ?_
    refine lv_goto (tgt := 52) hx hb dL_act_46 (by decide) ?_
    refine vp_callSi ((va_runS (As := [.int (v >>> (6 &&& 31)), .int 13000]) (rest := []) ⟨hx, hb, hml, hown, hts⟩ (c_L_low l (v >>> (6 &&& 31)) 13000 (by decide)) (va_cwS 2 hts gL_act_L_low rfl rfl rfl (by decide +kernel) ⟨Nat.le_of_ble_eq_true rfl, Nat.le_of_ble_eq_true rfl⟩) ⟨zT.blind, zT.call⟩ rfl rfl hl.1 rfl (lv_room (Nat.le_of_ble_eq_true rfl)) dL_act_52 ⟨Nat.zero_le _, Nat.zero_le _⟩).run) (fun r_52 h_52 => ?_)
    have h_52 : r_52 = (zLo (v >>> (6 &&& 31)) 13000) := h_52
    subst h_52
    refine lv_istore (lv' := [(4, .int (zLo (v >>> (6 &&& 31)) 13000)), (3, .int (zLo (v >>> (4 &&& 31)) 6)), (2, .int 1), (0, .ref h), (1, .int v)]) hx hb dL_act_55 hl (by decide) rfl (fun ls hl => ?_)
    refine lv_iload_n hx hb dL_act_57 rfl (lv_at hl 4 rfl) ?_
    refine lv_bipush (v := 12) hx hb dL_act_58 (by decide) ?_
    refine vp_callSi ((va_runS (As := [.int v, .int 12]) (rest := []) ⟨hx, hb, hml, hown, hts⟩ (c_L_low l v 12 (by decide)) (va_cwS 2 hts gL_act_L_low rfl rfl rfl (by decide +kernel) ⟨Nat.le_of_ble_eq_true rfl, Nat.le_of_ble_eq_true rfl⟩) ⟨zT.blind, zT.call⟩ rfl rfl hl.1 rfl (lv_room (Nat.le_of_ble_eq_true rfl)) dL_act_60 ⟨Nat.zero_le _, Nat.zero_le _⟩).run) (fun r_60 h_60 => ?_)
    have h_60 : r_60 = (zLo v 12) := h_60
    subst h_60
    rw [show ((zLo v 12) : Int32) = (nI k) from hk]
    refine act_sw hx hb hk12 ?_
    rw [ht]
    refine lv_aload_n hx hb dL_act_282 rfl (lv_at hl 3 rfl) ?_
    refine lv_iload_n hx hb dL_act_283 rfl (lv_at hl 1 rfl) ?_
    refine lv_iload_n hx hb dL_act_284 rfl (lv_at hl 2 rfl) ?_
    refine lv_if_ne (tgt := 331) hx hb dL_act_285 (by decide) (fun _ => ?_) (fun c_285 => absurd c_285 (by decide))
    refine lv_iload hx hb dL_act_331 (lv_at hl 0 rfl) ?_
    refine va_calli (vx_runSW (As := [.ref h, .int (zLo (v >>> (4 &&& 31)) 6), .int (zLo (v >>> (6 &&& 31)) 13000)]) (rest := []) ⟨hx, hb, hml, hown, hts⟩ (c_L_sing_1 l hst D N0 cA cL E h d z c (zLo (v >>> (4 &&& 31)) 6) (zLo (v >>> (6 &&& 31)) 13000) hw) (vx_cwSW 3 hts gL_act_L_sing rfl rfl rfl (by decide +kernel) ⟨Nat.le_of_ble_eq_true rfl, Nat.le_of_ble_eq_true rfl⟩) ⟨zPre.blind, zPre.call hN hP hD hK hE hS⟩ rfl rfl hl.1 rfl (lv_room (Nat.le_of_ble_eq_true rfl)) dL_act_333 ⟨Nat.le_refl _, Nat.le_refl _⟩) hS (fun _ _ h9 => h9) (fun _ h9 => h9) (fun r_333 _ t H locs ht hvm h_333 hB hz1 hk1 hS => ?_)
    have h_333 : r_333 = (-99999) := h_333
    subst h_333
    obtain ⟨hP, hD⟩ := hB
    rw [ht] at hP
    have hP : va_P D vwCl (wX h d cA z c ++ E) H := hP
    have hD : va_D (zA N0) (wX h d cA z c ++ E) := hD
    exact W.iret (v := (-99999)) hx hb hr (fun t ht hW => ⟨⟨_, (), rfl, rfl, ⟨by rw [ht]; exact hP, hD⟩⟩, hS.F ht⟩) hS.2.2 dL_act_336

set_option maxHeartbeats 4000000 in
set_option maxRecDepth 100000 in
theorem c_L_act_near_x2 (l : Launch) (hst : l.stackTraces = false) (D : va_G) (N0 : Nat) (cA cL : ClassId) (E : va_W) (h : Nat) (d : Nat → Nat) (z : S7) (c : C5) (v : Int32) (k : Nat) (hk : zLo v 12 = nI k) (hk12 : k < 12) (ht : zTg k = 282) (ho : zLo (v >>> (22 &&& 31)) 8 = 0) (hw : zw (zLo (v >>> (4 &&& 31)) 6)) (hp : ¬ zp (zLo (v >>> (6 &&& 31)) 13000)) : Met l yL_act wsL_act ({ frames := 10, cells := 1, slots := 6, locals := 300 }) (va_Pc [.ref h, .int v] (zPre D N0 cA cL (wX h d cA z c ++ E))) (va_Qi (fun (rv : Int32) (_ : Unit) => rv = (-99999)) (fun _ t => zPost D N0 (wX h d cA z c ++ E) t) (zA N0)) 1 6 (zA N0) := by
  refine Met.ofW (cc := cL_act) (maxL := 5) (ret := (some .int)) (by decide) rfl ?_
  intro pr e s m ag below meth cd s₁ B hml hv
  obtain ⟨rfl, hN, hP, hD, hK, hE⟩ := hv
  have hx := B.exec
  have hb := B.bytes
  have hr := B.returns
  have hts := atoms_spec (ws := wsL_act) B.pre
  have hown : s.vm.findClass RL = some m.cls := findClass_of_methodNamed B.named
  have hlocks := B.notSynchronized
  have hS : va_S (zA N0) s.heap s.heap [] := va_S.rf
  have hl := lv_entry ([.ref h, .int v]) (n := 5) (Nat.le_of_ble_eq_true rfl)
  rw [lg_entry_eq]
  generalize (lg_sl ([.ref h, .int v]) ++ List.replicate (5 - (lg_sl ([.ref h, .int v])).length) Slot.unset).toArray = ls at hl ⊢
  have hl : lv_has ls 5 [(0, .ref h), (1, .int v)] := hl
  refine lv_iload_n hx hb dL_act_0 rfl (lv_at hl 1 rfl) ?_
  refine lv_bipush (v := 22) hx hb dL_act_1 (by decide) ?_
  refine lv_ishr hx hb dL_act_3 ?_
  refine lv_bipush (v := 8) hx hb dL_act_4 (by decide) ?_
  refine vp_callSi ((va_runS (As := [.int (v >>> (22 &&& 31)), .int 8]) (rest := []) ⟨hx, hb, hml, hown, hts⟩ (c_L_low l (v >>> (22 &&& 31)) 8 (by decide)) (va_cwS 2 hts gL_act_L_low rfl rfl rfl (by decide +kernel) ⟨Nat.le_of_ble_eq_true rfl, Nat.le_of_ble_eq_true rfl⟩) ⟨zT.blind, zT.call⟩ rfl rfl hl.1 rfl (lv_room (Nat.le_of_ble_eq_true rfl)) dL_act_6 ⟨Nat.zero_le _, Nat.zero_le _⟩).run) (fun r_6 h_6 => ?_)
  have h_6 : r_6 = (zLo (v >>> (22 &&& 31)) 8) := h_6
  subst h_6
  refine lv_if_ne (tgt := 16) hx hb dL_act_9 (by decide) (fun c_9 => ?_) (fun c_9 => ?_)
  · exact absurd ho c_9
  · refine lv_iconst (v := 1) hx hb dL_act_12 (by decide) ?_
    refine lv_goto (tgt := 17) hx hb dL_act_13 (by decide) ?_
    refine lv_istore_n (lv' := [(2, .int 1), (0, .ref h), (1, .int v)]) hx hb dL_act_17 rfl hl (by decide) rfl (fun ls hl => ?_)
    refine lv_iload_n hx hb dL_act_18 rfl (lv_at hl 2 rfl) ?_
    refine lv_iconst (v := 4) hx hb dL_act_19 (by decide) ?_
    refine lv_ishr hx hb dL_act_20 ?_
    refine lv_iload_n hx hb dL_act_21 rfl (lv_at hl 0 rfl) ?_
    refine lv_if_eq (tgt := 30) hx hb dL_act_22 (by decide) (fun c_22 => absurd c_22 (by decide)) (fun _ => ?_)
    refine lv_bipush (v := 6) hx hb dL_act_25 (by decide) ?_
    refine lv_goto (tgt := 31) hx hb dL_act_27 (by decide) ?_
    refine vp_callSi ((va_runS (As := [.int (v >>> (4 &&& 31)), .int 6]) (rest := []) ⟨hx, hb, hml, hown, hts⟩ (c_L_low l (v >>> (4 &&& 31)) 6 (by decide)) (va_cwS 2 hts gL_act_L_low rfl rfl rfl (by decide +kernel) ⟨Nat.le_of_ble_eq_true rfl, Nat.le_of_ble_eq_true rfl⟩) ⟨zT.blind, zT.call⟩ rfl rfl hl.1 rfl (lv_room (Nat.le_of_ble_eq_true rfl)) dL_act_31 ⟨Nat.zero_le _, Nat.zero_le _⟩).run) (fun r_31 h_31 => ?_)
    have h_31 : r_31 = (zLo (v >>> (4 &&& 31)) 6) := h_31
    subst h_31
    refine lv_istore_n (lv' := [(3, .int (zLo (v >>> (4 &&& 31)) 6)), (2, .int 1), (0, .ref h), (1, .int v)]) hx hb dL_act_34 rfl hl (by decide) rfl (fun ls hl => ?_)
    refine lv_iload_n hx hb dL_act_35 rfl (lv_at hl 3 rfl) ?_
    refine lv_bipush (v := 6) hx hb dL_act_36 (by decide) ?_
    refine lv_ishr hx hb dL_act_38 ?_
    refine lv_iload_n hx hb dL_act_39 rfl (lv_at hl 1 rfl) ?_
    refine lv_if_eq (tgt := 49) hx hb dL_act_40 (by decide) (fun c_40 => absurd c_40 (by decide)) (fun _ => ?_)
    refine lv_sipush (v := 13000) hx hb dL_act_43 (by decide) ?_
    refine lv_goto (tgt := 52) hx hb dL_act_46 (by decide) ?_
    refine vp_callSi ((va_runS (As := [.int (v >>> (6 &&& 31)), .int 13000]) (rest := []) ⟨hx, hb, hml, hown, hts⟩ (c_L_low l (v >>> (6 &&& 31)) 13000 (by decide)) (va_cwS 2 hts gL_act_L_low rfl rfl rfl (by decide +kernel) ⟨Nat.le_of_ble_eq_true rfl, Nat.le_of_ble_eq_true rfl⟩) ⟨zT.blind, zT.call⟩ rfl rfl hl.1 rfl (lv_room (Nat.le_of_ble_eq_true rfl)) dL_act_52 ⟨Nat.zero_le _, Nat.zero_le _⟩).run) (fun r_52 h_52 => ?_)
    have h_52 : r_52 = (zLo (v >>> (6 &&& 31)) 13000) := h_52
    subst h_52
    refine lv_istore (lv' := [(4, .int (zLo (v >>> (6 &&& 31)) 13000)), (3, .int (zLo (v >>> (4 &&& 31)) 6)), (2, .int 1), (0, .ref h), (1, .int v)]) hx hb dL_act_55 hl (by decide) rfl (fun ls hl => ?_)
    refine lv_iload_n hx hb dL_act_57 rfl (lv_at hl 4 rfl) ?_
    refine lv_bipush (v := 12) hx hb dL_act_58 (by decide) ?_
    refine vp_callSi ((va_runS (As := [.int v, .int 12]) (rest := []) ⟨hx, hb, hml, hown, hts⟩ (c_L_low l v 12 (by decide)) (va_cwS 2 hts gL_act_L_low rfl rfl rfl (by decide +kernel) ⟨Nat.le_of_ble_eq_true rfl, Nat.le_of_ble_eq_true rfl⟩) ⟨zT.blind, zT.call⟩ rfl rfl hl.1 rfl (lv_room (Nat.le_of_ble_eq_true rfl)) dL_act_60 ⟨Nat.zero_le _, Nat.zero_le _⟩).run) (fun r_60 h_60 => ?_)
    have h_60 : r_60 = (zLo v 12) := h_60
    subst h_60
    rw [show ((zLo v 12) : Int32) = (nI k) from hk]
    refine act_sw hx hb hk12 ?_
    rw [ht]
    refine lv_aload_n hx hb dL_act_282 rfl (lv_at hl 3 rfl) ?_
    refine lv_iload_n hx hb dL_act_283 rfl (lv_at hl 1 rfl) ?_
    refine lv_iload_n hx hb dL_act_284 rfl (lv_at hl 2 rfl) ?_
    refine lv_if_ne (tgt := 331) hx hb dL_act_285 (by decide) (fun _ => ?_) (fun c_285 => absurd c_285 (by decide))
    refine lv_iload hx hb dL_act_331 (lv_at hl 0 rfl) ?_
    refine va_calli (vx_runSW (As := [.ref h, .int (zLo (v >>> (4 &&& 31)) 6), .int (zLo (v >>> (6 &&& 31)) 13000)]) (rest := []) ⟨hx, hb, hml, hown, hts⟩ (c_L_sing_2 l hst D N0 cA cL E h d z c (zLo (v >>> (4 &&& 31)) 6) (zLo (v >>> (6 &&& 31)) 13000) hw hp) (vx_cwSW 3 hts gL_act_L_sing rfl rfl rfl (by decide +kernel) ⟨Nat.le_of_ble_eq_true rfl, Nat.le_of_ble_eq_true rfl⟩) ⟨zPre.blind, zPre.call hN hP hD hK hE hS⟩ rfl rfl hl.1 rfl (lv_room (Nat.le_of_ble_eq_true rfl)) dL_act_333 ⟨Nat.le_refl _, Nat.le_refl _⟩) hS (fun _ _ h9 => h9) (fun _ h9 => h9) (fun r_333 _ t H locs ht hvm h_333 hB hz1 hk1 hS => ?_)
    have h_333 : r_333 = (-99999) := h_333
    subst h_333
    obtain ⟨hP, hD⟩ := hB
    rw [ht] at hP
    have hP : va_P D vwCl (wX h d cA z c ++ E) H := hP
    have hD : va_D (zA N0) (wX h d cA z c ++ E) := hD
    exact W.iret (v := (-99999)) hx hb hr (fun t ht hW => ⟨⟨_, (), rfl, rfl, ⟨by rw [ht]; exact hP, hD⟩⟩, hS.F ht⟩) hS.2.2 dL_act_336

set_option maxHeartbeats 4000000 in
set_option maxRecDepth 100000 in
theorem c_L_act_sing_e (l : Launch) (D : va_G) (N0 : Nat) (cA cL : ClassId) (E : va_W) (h : Nat) (d : Nat → Nat) (z : S7) (c : C5) (v : Int32) (k : Nat) (hk : zLo v 12 = nI k) (hk12 : k < 12) (ht : zTg k = 337) (ho : ¬ zLo (v >>> (22 &&& 31)) 8 = 0) (hw : zw (zLo (v >>> (4 &&& 31)) 4)) (hp : zp (zLo (v >>> (6 &&& 31)) 12001)) (hc : okC c) : Met l yL_act wsL_act ({ frames := 10, cells := 0, slots := 0, locals := 300 }) (va_Pc [.ref h, .int v] (zPre D N0 cA cL (wX h d cA z c ++ E))) (va_Qi (fun (rv : Int32) (_ : Unit) => rv = zOut c (zLo (v >>> (4 &&& 31)) 4).toNatClampNeg (zLo (v >>> (6 &&& 31)) 12001) z) (fun _ t => zPost D N0 (wX h d cA (zSg c (zLo (v >>> (4 &&& 31)) 4).toNatClampNeg (zLo (v >>> (6 &&& 31)) 12001) z) c ++ E) t) (zA N0)) 0 0 (zA N0) := by
  refine Met.ofW (cc := cL_act) (maxL := 5) (ret := (some .int)) (by decide) rfl ?_
  intro pr e s m ag below meth cd s₁ B hml hv
  obtain ⟨rfl, hN, hP, hD, hK, hE⟩ := hv
  have hx := B.exec
  have hb := B.bytes
  have hr := B.returns
  have hts := atoms_spec (ws := wsL_act) B.pre
  have hown : s.vm.findClass RL = some m.cls := findClass_of_methodNamed B.named
  have hlocks := B.notSynchronized
  have hS : va_S (zA N0) s.heap s.heap [] := va_S.rf
  have hl := lv_entry ([.ref h, .int v]) (n := 5) (Nat.le_of_ble_eq_true rfl)
  rw [lg_entry_eq]
  generalize (lg_sl ([.ref h, .int v]) ++ List.replicate (5 - (lg_sl ([.ref h, .int v])).length) Slot.unset).toArray = ls at hl ⊢
  have hl : lv_has ls 5 [(0, .ref h), (1, .int v)] := hl
  refine lv_iload_n hx hb dL_act_0 rfl (lv_at hl 1 rfl) ?_
  refine lv_bipush (v := 22) hx hb dL_act_1 (by decide) ?_
  refine lv_ishr hx hb dL_act_3 ?_
  refine lv_bipush (v := 8) hx hb dL_act_4 (by decide) ?_
  refine vp_callSi ((va_runS (As := [.int (v >>> (22 &&& 31)), .int 8]) (rest := []) ⟨hx, hb, hml, hown, hts⟩ (c_L_low l (v >>> (22 &&& 31)) 8 (by decide)) (va_cwS 2 hts gL_act_L_low rfl rfl rfl (by decide +kernel) ⟨Nat.le_of_ble_eq_true rfl, Nat.le_of_ble_eq_true rfl⟩) ⟨zT.blind, zT.call⟩ rfl rfl hl.1 rfl (lv_room (Nat.le_of_ble_eq_true rfl)) dL_act_6 ⟨Nat.zero_le _, Nat.zero_le _⟩).run) (fun r_6 h_6 => ?_)
  have h_6 : r_6 = (zLo (v >>> (22 &&& 31)) 8) := h_6
  subst h_6
  refine lv_if_ne (tgt := 16) hx hb dL_act_9 (by decide) (fun c_9 => ?_) (fun c_9 => ?_)
  · refine lv_iconst (v := 0) hx hb dL_act_16 (by decide) ?_
    refine lv_istore_n (lv' := [(2, .int 0), (0, .ref h), (1, .int v)]) hx hb dL_act_17 rfl hl (by decide) rfl (fun ls hl => ?_)
    refine lv_iload_n hx hb dL_act_18 rfl (lv_at hl 2 rfl) ?_
    refine lv_iconst (v := 4) hx hb dL_act_19 (by decide) ?_
    refine lv_ishr hx hb dL_act_20 ?_
    refine lv_iload_n hx hb dL_act_21 rfl (lv_at hl 0 rfl) ?_
    refine lv_if_eq (tgt := 30) hx hb dL_act_22 (by decide) (fun _ => ?_) (fun c_22 => absurd c_22 (by decide))
    refine lv_iconst (v := 4) hx hb dL_act_30 (by decide) ?_
    refine vp_callSi ((va_runS (As := [.int (v >>> (4 &&& 31)), .int 4]) (rest := []) ⟨hx, hb, hml, hown, hts⟩ (c_L_low l (v >>> (4 &&& 31)) 4 (by decide)) (va_cwS 2 hts gL_act_L_low rfl rfl rfl (by decide +kernel) ⟨Nat.le_of_ble_eq_true rfl, Nat.le_of_ble_eq_true rfl⟩) ⟨zT.blind, zT.call⟩ rfl rfl hl.1 rfl (lv_room (Nat.le_of_ble_eq_true rfl)) dL_act_31 ⟨Nat.zero_le _, Nat.zero_le _⟩).run) (fun r_31 h_31 => ?_)
    have h_31 : r_31 = (zLo (v >>> (4 &&& 31)) 4) := h_31
    subst h_31
    refine lv_istore_n (lv' := [(3, .int (zLo (v >>> (4 &&& 31)) 4)), (2, .int 0), (0, .ref h), (1, .int v)]) hx hb dL_act_34 rfl hl (by decide) rfl (fun ls hl => ?_)
    refine lv_iload_n hx hb dL_act_35 rfl (lv_at hl 3 rfl) ?_
    refine lv_bipush (v := 6) hx hb dL_act_36 (by decide) ?_
    refine lv_ishr hx hb dL_act_38 ?_
    refine lv_iload_n hx hb dL_act_39 rfl (lv_at hl 1 rfl) ?_
    refine lv_if_eq (tgt := 49) hx hb dL_act_40 (by decide) (fun _ => ?_) (fun c_40 => absurd c_40 (by decide))
    refine lv_sipush (v := 12001) hx hb dL_act_49 (by decide) ?_
    refine vp_callSi ((va_runS (As := [.int (v >>> (6 &&& 31)), .int 12001]) (rest := []) ⟨hx, hb, hml, hown, hts⟩ (c_L_low l (v >>> (6 &&& 31)) 12001 (by decide)) (va_cwS 2 hts gL_act_L_low rfl rfl rfl (by decide +kernel) ⟨Nat.le_of_ble_eq_true rfl, Nat.le_of_ble_eq_true rfl⟩) ⟨zT.blind, zT.call⟩ rfl rfl hl.1 rfl (lv_room (Nat.le_of_ble_eq_true rfl)) dL_act_52 ⟨Nat.zero_le _, Nat.zero_le _⟩).run) (fun r_52 h_52 => ?_)
    have h_52 : r_52 = (zLo (v >>> (6 &&& 31)) 12001) := h_52
    subst h_52
    refine lv_istore (lv' := [(4, .int (zLo (v >>> (6 &&& 31)) 12001)), (3, .int (zLo (v >>> (4 &&& 31)) 4)), (2, .int 0), (0, .ref h), (1, .int v)]) hx hb dL_act_55 hl (by decide) rfl (fun ls hl => ?_)
    refine lv_iload_n hx hb dL_act_57 rfl (lv_at hl 4 rfl) ?_
    refine lv_bipush (v := 12) hx hb dL_act_58 (by decide) ?_
    refine vp_callSi ((va_runS (As := [.int v, .int 12]) (rest := []) ⟨hx, hb, hml, hown, hts⟩ (c_L_low l v 12 (by decide)) (va_cwS 2 hts gL_act_L_low rfl rfl rfl (by decide +kernel) ⟨Nat.le_of_ble_eq_true rfl, Nat.le_of_ble_eq_true rfl⟩) ⟨zT.blind, zT.call⟩ rfl rfl hl.1 rfl (lv_room (Nat.le_of_ble_eq_true rfl)) dL_act_60 ⟨Nat.zero_le _, Nat.zero_le _⟩).run) (fun r_60 h_60 => ?_)
    have h_60 : r_60 = (zLo v 12) := h_60
    subst h_60
    rw [show ((zLo v 12) : Int32) = (nI k) from hk]
    refine act_sw hx hb hk12 ?_
    rw [ht]
    refine lv_aload_n hx hb dL_act_337 rfl (lv_at hl 3 rfl) ?_
    refine lv_iload_n hx hb dL_act_338 rfl (lv_at hl 1 rfl) ?_
    refine lv_iload hx hb dL_act_339 (lv_at hl 0 rfl) ?_
    refine va_calli (vx_runSW (As := [.ref h, .int (zLo (v >>> (4 &&& 31)) 4), .int (zLo (v >>> (6 &&& 31)) 12001)]) (rest := []) ⟨hx, hb, hml, hown, hts⟩ (c_L_sing_v l D N0 cA cL E h d z c (zLo (v >>> (4 &&& 31)) 4) (zLo (v >>> (6 &&& 31)) 12001) hc hw hp) (vx_cwSW 3 hts gL_act_L_sing rfl rfl rfl (by decide +kernel) ⟨Nat.le_of_ble_eq_true rfl, Nat.le_of_ble_eq_true rfl⟩) ⟨zPre.blind, zPre.call hN hP hD hK hE hS⟩ rfl rfl hl.1 rfl (lv_room (Nat.le_of_ble_eq_true rfl)) dL_act_341 ⟨Nat.zero_le _, Nat.zero_le _⟩) hS (fun _ _ h9 => h9) (fun _ h9 => h9) (fun r_341 _ t H locs ht hvm h_341 hB hz1 hk1 hS => ?_)
    have h_341 : r_341 = (zOut c (zLo (v >>> (4 &&& 31)) 4).toNatClampNeg (zLo (v >>> (6 &&& 31)) 12001) z) := h_341
    subst h_341
    obtain ⟨hP, hD⟩ := hB
    rw [ht] at hP
    have hP : va_P D vwCl (wX h d cA (zSg c (zLo (v >>> (4 &&& 31)) 4).toNatClampNeg (zLo (v >>> (6 &&& 31)) 12001) z) c ++ E) H := hP
    have hD : va_D (zA N0) (wX h d cA (zSg c (zLo (v >>> (4 &&& 31)) 4).toNatClampNeg (zLo (v >>> (6 &&& 31)) 12001) z) c ++ E) := hD
    exact W.iret (v := (zOut c (zLo (v >>> (4 &&& 31)) 4).toNatClampNeg (zLo (v >>> (6 &&& 31)) 12001) z)) hx hb hr (fun t ht hW => ⟨⟨_, (), rfl, rfl, ⟨by rw [ht]; exact hP, hD⟩⟩, hS.F ht⟩) hS.2.2 dL_act_344
  · exact absurd c_9 ho

set_option maxHeartbeats 4000000 in
set_option maxRecDepth 100000 in
theorem c_L_act_sing_o (l : Launch) (D : va_G) (N0 : Nat) (cA cL : ClassId) (E : va_W) (h : Nat) (d : Nat → Nat) (z : S7) (c : C5) (v : Int32) (k : Nat) (hk : zLo v 12 = nI k) (hk12 : k < 12) (ht : zTg k = 337) (ho : zLo (v >>> (22 &&& 31)) 8 = 0) (hw : zw (zLo (v >>> (4 &&& 31)) 6)) (hp : zp (zLo (v >>> (6 &&& 31)) 13000)) (hc : okC c) : Met l yL_act wsL_act ({ frames := 10, cells := 0, slots := 0, locals := 300 }) (va_Pc [.ref h, .int v] (zPre D N0 cA cL (wX h d cA z c ++ E))) (va_Qi (fun (rv : Int32) (_ : Unit) => rv = zOut c (zLo (v >>> (4 &&& 31)) 6).toNatClampNeg (zLo (v >>> (6 &&& 31)) 13000) z) (fun _ t => zPost D N0 (wX h d cA (zSg c (zLo (v >>> (4 &&& 31)) 6).toNatClampNeg (zLo (v >>> (6 &&& 31)) 13000) z) c ++ E) t) (zA N0)) 0 0 (zA N0) := by
  refine Met.ofW (cc := cL_act) (maxL := 5) (ret := (some .int)) (by decide) rfl ?_
  intro pr e s m ag below meth cd s₁ B hml hv
  obtain ⟨rfl, hN, hP, hD, hK, hE⟩ := hv
  have hx := B.exec
  have hb := B.bytes
  have hr := B.returns
  have hts := atoms_spec (ws := wsL_act) B.pre
  have hown : s.vm.findClass RL = some m.cls := findClass_of_methodNamed B.named
  have hlocks := B.notSynchronized
  have hS : va_S (zA N0) s.heap s.heap [] := va_S.rf
  have hl := lv_entry ([.ref h, .int v]) (n := 5) (Nat.le_of_ble_eq_true rfl)
  rw [lg_entry_eq]
  generalize (lg_sl ([.ref h, .int v]) ++ List.replicate (5 - (lg_sl ([.ref h, .int v])).length) Slot.unset).toArray = ls at hl ⊢
  have hl : lv_has ls 5 [(0, .ref h), (1, .int v)] := hl
  refine lv_iload_n hx hb dL_act_0 rfl (lv_at hl 1 rfl) ?_
  refine lv_bipush (v := 22) hx hb dL_act_1 (by decide) ?_
  refine lv_ishr hx hb dL_act_3 ?_
  refine lv_bipush (v := 8) hx hb dL_act_4 (by decide) ?_
  refine vp_callSi ((va_runS (As := [.int (v >>> (22 &&& 31)), .int 8]) (rest := []) ⟨hx, hb, hml, hown, hts⟩ (c_L_low l (v >>> (22 &&& 31)) 8 (by decide)) (va_cwS 2 hts gL_act_L_low rfl rfl rfl (by decide +kernel) ⟨Nat.le_of_ble_eq_true rfl, Nat.le_of_ble_eq_true rfl⟩) ⟨zT.blind, zT.call⟩ rfl rfl hl.1 rfl (lv_room (Nat.le_of_ble_eq_true rfl)) dL_act_6 ⟨Nat.zero_le _, Nat.zero_le _⟩).run) (fun r_6 h_6 => ?_)
  have h_6 : r_6 = (zLo (v >>> (22 &&& 31)) 8) := h_6
  subst h_6
  refine lv_if_ne (tgt := 16) hx hb dL_act_9 (by decide) (fun c_9 => ?_) (fun c_9 => ?_)
  · exact absurd ho c_9
  · refine lv_iconst (v := 1) hx hb dL_act_12 (by decide) ?_
    refine lv_goto (tgt := 17) hx hb dL_act_13 (by decide) ?_
    refine lv_istore_n (lv' := [(2, .int 1), (0, .ref h), (1, .int v)]) hx hb dL_act_17 rfl hl (by decide) rfl (fun ls hl => ?_)
    refine lv_iload_n hx hb dL_act_18 rfl (lv_at hl 2 rfl) ?_
    refine lv_iconst (v := 4) hx hb dL_act_19 (by decide) ?_
    refine lv_ishr hx hb dL_act_20 ?_
    refine lv_iload_n hx hb dL_act_21 rfl (lv_at hl 0 rfl) ?_
    refine lv_if_eq (tgt := 30) hx hb dL_act_22 (by decide) (fun c_22 => absurd c_22 (by decide)) (fun _ => ?_)
    refine lv_bipush (v := 6) hx hb dL_act_25 (by decide) ?_
    refine lv_goto (tgt := 31) hx hb dL_act_27 (by decide) ?_
    refine vp_callSi ((va_runS (As := [.int (v >>> (4 &&& 31)), .int 6]) (rest := []) ⟨hx, hb, hml, hown, hts⟩ (c_L_low l (v >>> (4 &&& 31)) 6 (by decide)) (va_cwS 2 hts gL_act_L_low rfl rfl rfl (by decide +kernel) ⟨Nat.le_of_ble_eq_true rfl, Nat.le_of_ble_eq_true rfl⟩) ⟨zT.blind, zT.call⟩ rfl rfl hl.1 rfl (lv_room (Nat.le_of_ble_eq_true rfl)) dL_act_31 ⟨Nat.zero_le _, Nat.zero_le _⟩).run) (fun r_31 h_31 => ?_)
    have h_31 : r_31 = (zLo (v >>> (4 &&& 31)) 6) := h_31
    subst h_31
    refine lv_istore_n (lv' := [(3, .int (zLo (v >>> (4 &&& 31)) 6)), (2, .int 1), (0, .ref h), (1, .int v)]) hx hb dL_act_34 rfl hl (by decide) rfl (fun ls hl => ?_)
    refine lv_iload_n hx hb dL_act_35 rfl (lv_at hl 3 rfl) ?_
    refine lv_bipush (v := 6) hx hb dL_act_36 (by decide) ?_
    refine lv_ishr hx hb dL_act_38 ?_
    refine lv_iload_n hx hb dL_act_39 rfl (lv_at hl 1 rfl) ?_
    refine lv_if_eq (tgt := 49) hx hb dL_act_40 (by decide) (fun c_40 => absurd c_40 (by decide)) (fun _ => ?_)
    refine lv_sipush (v := 13000) hx hb dL_act_43 (by decide) ?_
    refine lv_goto (tgt := 52) hx hb dL_act_46 (by decide) ?_
    refine vp_callSi ((va_runS (As := [.int (v >>> (6 &&& 31)), .int 13000]) (rest := []) ⟨hx, hb, hml, hown, hts⟩ (c_L_low l (v >>> (6 &&& 31)) 13000 (by decide)) (va_cwS 2 hts gL_act_L_low rfl rfl rfl (by decide +kernel) ⟨Nat.le_of_ble_eq_true rfl, Nat.le_of_ble_eq_true rfl⟩) ⟨zT.blind, zT.call⟩ rfl rfl hl.1 rfl (lv_room (Nat.le_of_ble_eq_true rfl)) dL_act_52 ⟨Nat.zero_le _, Nat.zero_le _⟩).run) (fun r_52 h_52 => ?_)
    have h_52 : r_52 = (zLo (v >>> (6 &&& 31)) 13000) := h_52
    subst h_52
    refine lv_istore (lv' := [(4, .int (zLo (v >>> (6 &&& 31)) 13000)), (3, .int (zLo (v >>> (4 &&& 31)) 6)), (2, .int 1), (0, .ref h), (1, .int v)]) hx hb dL_act_55 hl (by decide) rfl (fun ls hl => ?_)
    refine lv_iload_n hx hb dL_act_57 rfl (lv_at hl 4 rfl) ?_
    refine lv_bipush (v := 12) hx hb dL_act_58 (by decide) ?_
    refine vp_callSi ((va_runS (As := [.int v, .int 12]) (rest := []) ⟨hx, hb, hml, hown, hts⟩ (c_L_low l v 12 (by decide)) (va_cwS 2 hts gL_act_L_low rfl rfl rfl (by decide +kernel) ⟨Nat.le_of_ble_eq_true rfl, Nat.le_of_ble_eq_true rfl⟩) ⟨zT.blind, zT.call⟩ rfl rfl hl.1 rfl (lv_room (Nat.le_of_ble_eq_true rfl)) dL_act_60 ⟨Nat.zero_le _, Nat.zero_le _⟩).run) (fun r_60 h_60 => ?_)
    have h_60 : r_60 = (zLo v 12) := h_60
    subst h_60
    rw [show ((zLo v 12) : Int32) = (nI k) from hk]
    refine act_sw hx hb hk12 ?_
    rw [ht]
    refine lv_aload_n hx hb dL_act_337 rfl (lv_at hl 3 rfl) ?_
    refine lv_iload_n hx hb dL_act_338 rfl (lv_at hl 1 rfl) ?_
    refine lv_iload hx hb dL_act_339 (lv_at hl 0 rfl) ?_
    refine va_calli (vx_runSW (As := [.ref h, .int (zLo (v >>> (4 &&& 31)) 6), .int (zLo (v >>> (6 &&& 31)) 13000)]) (rest := []) ⟨hx, hb, hml, hown, hts⟩ (c_L_sing_v l D N0 cA cL E h d z c (zLo (v >>> (4 &&& 31)) 6) (zLo (v >>> (6 &&& 31)) 13000) hc hw hp) (vx_cwSW 3 hts gL_act_L_sing rfl rfl rfl (by decide +kernel) ⟨Nat.le_of_ble_eq_true rfl, Nat.le_of_ble_eq_true rfl⟩) ⟨zPre.blind, zPre.call hN hP hD hK hE hS⟩ rfl rfl hl.1 rfl (lv_room (Nat.le_of_ble_eq_true rfl)) dL_act_341 ⟨Nat.zero_le _, Nat.zero_le _⟩) hS (fun _ _ h9 => h9) (fun _ h9 => h9) (fun r_341 _ t H locs ht hvm h_341 hB hz1 hk1 hS => ?_)
    have h_341 : r_341 = (zOut c (zLo (v >>> (4 &&& 31)) 6).toNatClampNeg (zLo (v >>> (6 &&& 31)) 13000) z) := h_341
    subst h_341
    obtain ⟨hP, hD⟩ := hB
    rw [ht] at hP
    have hP : va_P D vwCl (wX h d cA (zSg c (zLo (v >>> (4 &&& 31)) 6).toNatClampNeg (zLo (v >>> (6 &&& 31)) 13000) z) c ++ E) H := hP
    have hD : va_D (zA N0) (wX h d cA (zSg c (zLo (v >>> (4 &&& 31)) 6).toNatClampNeg (zLo (v >>> (6 &&& 31)) 13000) z) c ++ E) := hD
    exact W.iret (v := (zOut c (zLo (v >>> (4 &&& 31)) 6).toNatClampNeg (zLo (v >>> (6 &&& 31)) 13000) z)) hx hb hr (fun t ht hW => ⟨⟨_, (), rfl, rfl, ⟨by rw [ht]; exact hP, hD⟩⟩, hS.F ht⟩) hS.2.2 dL_act_344

set_option maxHeartbeats 4000000 in
set_option maxRecDepth 100000 in
theorem c_L_act_sing_x1 (l : Launch) (hst : l.stackTraces = false) (D : va_G) (N0 : Nat) (cA cL : ClassId) (E : va_W) (h : Nat) (d : Nat → Nat) (z : S7) (c : C5) (v : Int32) (k : Nat) (hk : zLo v 12 = nI k) (hk12 : k < 12) (ht : zTg k = 337) (ho : zLo (v >>> (22 &&& 31)) 8 = 0) (hw : ¬ zw (zLo (v >>> (4 &&& 31)) 6)) : Met l yL_act wsL_act ({ frames := 10, cells := 1, slots := 6, locals := 300 }) (va_Pc [.ref h, .int v] (zPre D N0 cA cL (wX h d cA z c ++ E))) (va_Qi (fun (rv : Int32) (_ : Unit) => rv = (-99999)) (fun _ t => zPost D N0 (wX h d cA z c ++ E) t) (zA N0)) 1 6 (zA N0) := by
  refine Met.ofW (cc := cL_act) (maxL := 5) (ret := (some .int)) (by decide) rfl ?_
  intro pr e s m ag below meth cd s₁ B hml hv
  obtain ⟨rfl, hN, hP, hD, hK, hE⟩ := hv
  have hx := B.exec
  have hb := B.bytes
  have hr := B.returns
  have hts := atoms_spec (ws := wsL_act) B.pre
  have hown : s.vm.findClass RL = some m.cls := findClass_of_methodNamed B.named
  have hlocks := B.notSynchronized
  have hS : va_S (zA N0) s.heap s.heap [] := va_S.rf
  have hl := lv_entry ([.ref h, .int v]) (n := 5) (Nat.le_of_ble_eq_true rfl)
  rw [lg_entry_eq]
  generalize (lg_sl ([.ref h, .int v]) ++ List.replicate (5 - (lg_sl ([.ref h, .int v])).length) Slot.unset).toArray = ls at hl ⊢
  have hl : lv_has ls 5 [(0, .ref h), (1, .int v)] := hl
  refine lv_iload_n hx hb dL_act_0 rfl (lv_at hl 1 rfl) ?_
  refine lv_bipush (v := 22) hx hb dL_act_1 (by decide) ?_
  refine lv_ishr hx hb dL_act_3 ?_
  refine lv_bipush (v := 8) hx hb dL_act_4 (by decide) ?_
  refine vp_callSi ((va_runS (As := [.int (v >>> (22 &&& 31)), .int 8]) (rest := []) ⟨hx, hb, hml, hown, hts⟩ (c_L_low l (v >>> (22 &&& 31)) 8 (by decide)) (va_cwS 2 hts gL_act_L_low rfl rfl rfl (by decide +kernel) ⟨Nat.le_of_ble_eq_true rfl, Nat.le_of_ble_eq_true rfl⟩) ⟨zT.blind, zT.call⟩ rfl rfl hl.1 rfl (lv_room (Nat.le_of_ble_eq_true rfl)) dL_act_6 ⟨Nat.zero_le _, Nat.zero_le _⟩).run) (fun r_6 h_6 => ?_)
  have h_6 : r_6 = (zLo (v >>> (22 &&& 31)) 8) := h_6
  subst h_6
  refine lv_if_ne (tgt := 16) hx hb dL_act_9 (by decide) (fun c_9 => ?_) (fun c_9 => ?_)
  · exact absurd ho c_9
  · refine lv_iconst (v := 1) hx hb dL_act_12 (by decide) ?_
    refine lv_goto (tgt := 17) hx hb dL_act_13 (by decide) ?_
    refine lv_istore_n (lv' := [(2, .int 1), (0, .ref h), (1, .int v)]) hx hb dL_act_17 rfl hl (by decide) rfl (fun ls hl => ?_)
    refine lv_iload_n hx hb dL_act_18 rfl (lv_at hl 2 rfl) ?_
    refine lv_iconst (v := 4) hx hb dL_act_19 (by decide) ?_
    refine lv_ishr hx hb dL_act_20 ?_
    refine lv_iload_n hx hb dL_act_21 rfl (lv_at hl 0 rfl) ?_
    refine lv_if_eq (tgt := 30) hx hb dL_act_22 (by decide) (fun c_22 => absurd c_22 (by decide)) (fun _ => ?_)
    refine lv_bipush (v := 6) hx hb dL_act_25 (by decide) ?_
    refine lv_goto (tgt := 31) hx hb dL_act_27 (by decide) ?_
    refine vp_callSi ((va_runS (As := [.int (v >>> (4 &&& 31)), .int 6]) (rest := []) ⟨hx, hb, hml, hown, hts⟩ (c_L_low l (v >>> (4 &&& 31)) 6 (by decide)) (va_cwS 2 hts gL_act_L_low rfl rfl rfl (by decide +kernel) ⟨Nat.le_of_ble_eq_true rfl, Nat.le_of_ble_eq_true rfl⟩) ⟨zT.blind, zT.call⟩ rfl rfl hl.1 rfl (lv_room (Nat.le_of_ble_eq_true rfl)) dL_act_31 ⟨Nat.zero_le _, Nat.zero_le _⟩).run) (fun r_31 h_31 => ?_)
    have h_31 : r_31 = (zLo (v >>> (4 &&& 31)) 6) := h_31
    subst h_31
    refine lv_istore_n (lv' := [(3, .int (zLo (v >>> (4 &&& 31)) 6)), (2, .int 1), (0, .ref h), (1, .int v)]) hx hb dL_act_34 rfl hl (by decide) rfl (fun ls hl => ?_)
    refine lv_iload_n hx hb dL_act_35 rfl (lv_at hl 3 rfl) ?_
    refine lv_bipush (v := 6) hx hb dL_act_36 (by decide) ?_
    refine lv_ishr hx hb dL_act_38 ?_
    refine lv_iload_n hx hb dL_act_39 rfl (lv_at hl 1 rfl) ?_
    refine lv_if_eq (tgt := 49) hx hb dL_act_40 (by decide) (fun c_40 => absurd c_40 (by decide)) (fun _ => ?_)
    refine lv_sipush (v := 13000) hx hb dL_act_43 (by decide) ?_
    refine lv_goto (tgt := 52) hx hb dL_act_46 (by decide) ?_
    refine vp_callSi ((va_runS (As := [.int (v >>> (6 &&& 31)), .int 13000]) (rest := []) ⟨hx, hb, hml, hown, hts⟩ (c_L_low l (v >>> (6 &&& 31)) 13000 (by decide)) (va_cwS 2 hts gL_act_L_low rfl rfl rfl (by decide +kernel) ⟨Nat.le_of_ble_eq_true rfl, Nat.le_of_ble_eq_true rfl⟩) ⟨zT.blind, zT.call⟩ rfl rfl hl.1 rfl (lv_room (Nat.le_of_ble_eq_true rfl)) dL_act_52 ⟨Nat.zero_le _, Nat.zero_le _⟩).run) (fun r_52 h_52 => ?_)
    have h_52 : r_52 = (zLo (v >>> (6 &&& 31)) 13000) := h_52
    subst h_52
    refine lv_istore (lv' := [(4, .int (zLo (v >>> (6 &&& 31)) 13000)), (3, .int (zLo (v >>> (4 &&& 31)) 6)), (2, .int 1), (0, .ref h), (1, .int v)]) hx hb dL_act_55 hl (by decide) rfl (fun ls hl => ?_)
    refine lv_iload_n hx hb dL_act_57 rfl (lv_at hl 4 rfl) ?_
    refine lv_bipush (v := 12) hx hb dL_act_58 (by decide) ?_
    refine vp_callSi ((va_runS (As := [.int v, .int 12]) (rest := []) ⟨hx, hb, hml, hown, hts⟩ (c_L_low l v 12 (by decide)) (va_cwS 2 hts gL_act_L_low rfl rfl rfl (by decide +kernel) ⟨Nat.le_of_ble_eq_true rfl, Nat.le_of_ble_eq_true rfl⟩) ⟨zT.blind, zT.call⟩ rfl rfl hl.1 rfl (lv_room (Nat.le_of_ble_eq_true rfl)) dL_act_60 ⟨Nat.zero_le _, Nat.zero_le _⟩).run) (fun r_60 h_60 => ?_)
    have h_60 : r_60 = (zLo v 12) := h_60
    subst h_60
    rw [show ((zLo v 12) : Int32) = (nI k) from hk]
    refine act_sw hx hb hk12 ?_
    rw [ht]
    refine lv_aload_n hx hb dL_act_337 rfl (lv_at hl 3 rfl) ?_
    refine lv_iload_n hx hb dL_act_338 rfl (lv_at hl 1 rfl) ?_
    refine lv_iload hx hb dL_act_339 (lv_at hl 0 rfl) ?_
    refine va_calli (vx_runSW (As := [.ref h, .int (zLo (v >>> (4 &&& 31)) 6), .int (zLo (v >>> (6 &&& 31)) 13000)]) (rest := []) ⟨hx, hb, hml, hown, hts⟩ (c_L_sing_1 l hst D N0 cA cL E h d z c (zLo (v >>> (4 &&& 31)) 6) (zLo (v >>> (6 &&& 31)) 13000) hw) (vx_cwSW 3 hts gL_act_L_sing rfl rfl rfl (by decide +kernel) ⟨Nat.le_of_ble_eq_true rfl, Nat.le_of_ble_eq_true rfl⟩) ⟨zPre.blind, zPre.call hN hP hD hK hE hS⟩ rfl rfl hl.1 rfl (lv_room (Nat.le_of_ble_eq_true rfl)) dL_act_341 ⟨Nat.le_refl _, Nat.le_refl _⟩) hS (fun _ _ h9 => h9) (fun _ h9 => h9) (fun r_341 _ t H locs ht hvm h_341 hB hz1 hk1 hS => ?_)
    have h_341 : r_341 = (-99999) := h_341
    subst h_341
    obtain ⟨hP, hD⟩ := hB
    rw [ht] at hP
    have hP : va_P D vwCl (wX h d cA z c ++ E) H := hP
    have hD : va_D (zA N0) (wX h d cA z c ++ E) := hD
    exact W.iret (v := (-99999)) hx hb hr (fun t ht hW => ⟨⟨_, (), rfl, rfl, ⟨by rw [ht]; exact hP, hD⟩⟩, hS.F ht⟩) hS.2.2 dL_act_344

set_option maxHeartbeats 4000000 in
set_option maxRecDepth 100000 in
theorem c_L_act_sing_x2 (l : Launch) (hst : l.stackTraces = false) (D : va_G) (N0 : Nat) (cA cL : ClassId) (E : va_W) (h : Nat) (d : Nat → Nat) (z : S7) (c : C5) (v : Int32) (k : Nat) (hk : zLo v 12 = nI k) (hk12 : k < 12) (ht : zTg k = 337) (ho : zLo (v >>> (22 &&& 31)) 8 = 0) (hw : zw (zLo (v >>> (4 &&& 31)) 6)) (hp : ¬ zp (zLo (v >>> (6 &&& 31)) 13000)) : Met l yL_act wsL_act ({ frames := 10, cells := 1, slots := 6, locals := 300 }) (va_Pc [.ref h, .int v] (zPre D N0 cA cL (wX h d cA z c ++ E))) (va_Qi (fun (rv : Int32) (_ : Unit) => rv = (-99999)) (fun _ t => zPost D N0 (wX h d cA z c ++ E) t) (zA N0)) 1 6 (zA N0) := by
  refine Met.ofW (cc := cL_act) (maxL := 5) (ret := (some .int)) (by decide) rfl ?_
  intro pr e s m ag below meth cd s₁ B hml hv
  obtain ⟨rfl, hN, hP, hD, hK, hE⟩ := hv
  have hx := B.exec
  have hb := B.bytes
  have hr := B.returns
  have hts := atoms_spec (ws := wsL_act) B.pre
  have hown : s.vm.findClass RL = some m.cls := findClass_of_methodNamed B.named
  have hlocks := B.notSynchronized
  have hS : va_S (zA N0) s.heap s.heap [] := va_S.rf
  have hl := lv_entry ([.ref h, .int v]) (n := 5) (Nat.le_of_ble_eq_true rfl)
  rw [lg_entry_eq]
  generalize (lg_sl ([.ref h, .int v]) ++ List.replicate (5 - (lg_sl ([.ref h, .int v])).length) Slot.unset).toArray = ls at hl ⊢
  have hl : lv_has ls 5 [(0, .ref h), (1, .int v)] := hl
  refine lv_iload_n hx hb dL_act_0 rfl (lv_at hl 1 rfl) ?_
  refine lv_bipush (v := 22) hx hb dL_act_1 (by decide) ?_
  refine lv_ishr hx hb dL_act_3 ?_
  refine lv_bipush (v := 8) hx hb dL_act_4 (by decide) ?_
  refine vp_callSi ((va_runS (As := [.int (v >>> (22 &&& 31)), .int 8]) (rest := []) ⟨hx, hb, hml, hown, hts⟩ (c_L_low l (v >>> (22 &&& 31)) 8 (by decide)) (va_cwS 2 hts gL_act_L_low rfl rfl rfl (by decide +kernel) ⟨Nat.le_of_ble_eq_true rfl, Nat.le_of_ble_eq_true rfl⟩) ⟨zT.blind, zT.call⟩ rfl rfl hl.1 rfl (lv_room (Nat.le_of_ble_eq_true rfl)) dL_act_6 ⟨Nat.zero_le _, Nat.zero_le _⟩).run) (fun r_6 h_6 => ?_)
  have h_6 : r_6 = (zLo (v >>> (22 &&& 31)) 8) := h_6
  subst h_6
  refine lv_if_ne (tgt := 16) hx hb dL_act_9 (by decide) (fun c_9 => ?_) (fun c_9 => ?_)
  · exact absurd ho c_9
  · refine lv_iconst (v := 1) hx hb dL_act_12 (by decide) ?_
    refine lv_goto (tgt := 17) hx hb dL_act_13 (by decide) ?_
    refine lv_istore_n (lv' := [(2, .int 1), (0, .ref h), (1, .int v)]) hx hb dL_act_17 rfl hl (by decide) rfl (fun ls hl => ?_)
    refine lv_iload_n hx hb dL_act_18 rfl (lv_at hl 2 rfl) ?_
    refine lv_iconst (v := 4) hx hb dL_act_19 (by decide) ?_
    refine lv_ishr hx hb dL_act_20 ?_
    refine lv_iload_n hx hb dL_act_21 rfl (lv_at hl 0 rfl) ?_
    refine lv_if_eq (tgt := 30) hx hb dL_act_22 (by decide) (fun c_22 => absurd c_22 (by decide)) (fun _ => ?_)
    refine lv_bipush (v := 6) hx hb dL_act_25 (by decide) ?_
    refine lv_goto (tgt := 31) hx hb dL_act_27 (by decide) ?_
    refine vp_callSi ((va_runS (As := [.int (v >>> (4 &&& 31)), .int 6]) (rest := []) ⟨hx, hb, hml, hown, hts⟩ (c_L_low l (v >>> (4 &&& 31)) 6 (by decide)) (va_cwS 2 hts gL_act_L_low rfl rfl rfl (by decide +kernel) ⟨Nat.le_of_ble_eq_true rfl, Nat.le_of_ble_eq_true rfl⟩) ⟨zT.blind, zT.call⟩ rfl rfl hl.1 rfl (lv_room (Nat.le_of_ble_eq_true rfl)) dL_act_31 ⟨Nat.zero_le _, Nat.zero_le _⟩).run) (fun r_31 h_31 => ?_)
    have h_31 : r_31 = (zLo (v >>> (4 &&& 31)) 6) := h_31
    subst h_31
    refine lv_istore_n (lv' := [(3, .int (zLo (v >>> (4 &&& 31)) 6)), (2, .int 1), (0, .ref h), (1, .int v)]) hx hb dL_act_34 rfl hl (by decide) rfl (fun ls hl => ?_)
    refine lv_iload_n hx hb dL_act_35 rfl (lv_at hl 3 rfl) ?_
    refine lv_bipush (v := 6) hx hb dL_act_36 (by decide) ?_
    refine lv_ishr hx hb dL_act_38 ?_
    refine lv_iload_n hx hb dL_act_39 rfl (lv_at hl 1 rfl) ?_
    refine lv_if_eq (tgt := 49) hx hb dL_act_40 (by decide) (fun c_40 => absurd c_40 (by decide)) (fun _ => ?_)
    refine lv_sipush (v := 13000) hx hb dL_act_43 (by decide) ?_
    refine lv_goto (tgt := 52) hx hb dL_act_46 (by decide) ?_
    refine vp_callSi ((va_runS (As := [.int (v >>> (6 &&& 31)), .int 13000]) (rest := []) ⟨hx, hb, hml, hown, hts⟩ (c_L_low l (v >>> (6 &&& 31)) 13000 (by decide)) (va_cwS 2 hts gL_act_L_low rfl rfl rfl (by decide +kernel) ⟨Nat.le_of_ble_eq_true rfl, Nat.le_of_ble_eq_true rfl⟩) ⟨zT.blind, zT.call⟩ rfl rfl hl.1 rfl (lv_room (Nat.le_of_ble_eq_true rfl)) dL_act_52 ⟨Nat.zero_le _, Nat.zero_le _⟩).run) (fun r_52 h_52 => ?_)
    have h_52 : r_52 = (zLo (v >>> (6 &&& 31)) 13000) := h_52
    subst h_52
    refine lv_istore (lv' := [(4, .int (zLo (v >>> (6 &&& 31)) 13000)), (3, .int (zLo (v >>> (4 &&& 31)) 6)), (2, .int 1), (0, .ref h), (1, .int v)]) hx hb dL_act_55 hl (by decide) rfl (fun ls hl => ?_)
    refine lv_iload_n hx hb dL_act_57 rfl (lv_at hl 4 rfl) ?_
    refine lv_bipush (v := 12) hx hb dL_act_58 (by decide) ?_
    refine vp_callSi ((va_runS (As := [.int v, .int 12]) (rest := []) ⟨hx, hb, hml, hown, hts⟩ (c_L_low l v 12 (by decide)) (va_cwS 2 hts gL_act_L_low rfl rfl rfl (by decide +kernel) ⟨Nat.le_of_ble_eq_true rfl, Nat.le_of_ble_eq_true rfl⟩) ⟨zT.blind, zT.call⟩ rfl rfl hl.1 rfl (lv_room (Nat.le_of_ble_eq_true rfl)) dL_act_60 ⟨Nat.zero_le _, Nat.zero_le _⟩).run) (fun r_60 h_60 => ?_)
    have h_60 : r_60 = (zLo v 12) := h_60
    subst h_60
    rw [show ((zLo v 12) : Int32) = (nI k) from hk]
    refine act_sw hx hb hk12 ?_
    rw [ht]
    refine lv_aload_n hx hb dL_act_337 rfl (lv_at hl 3 rfl) ?_
    refine lv_iload_n hx hb dL_act_338 rfl (lv_at hl 1 rfl) ?_
    refine lv_iload hx hb dL_act_339 (lv_at hl 0 rfl) ?_
    refine va_calli (vx_runSW (As := [.ref h, .int (zLo (v >>> (4 &&& 31)) 6), .int (zLo (v >>> (6 &&& 31)) 13000)]) (rest := []) ⟨hx, hb, hml, hown, hts⟩ (c_L_sing_2 l hst D N0 cA cL E h d z c (zLo (v >>> (4 &&& 31)) 6) (zLo (v >>> (6 &&& 31)) 13000) hw hp) (vx_cwSW 3 hts gL_act_L_sing rfl rfl rfl (by decide +kernel) ⟨Nat.le_of_ble_eq_true rfl, Nat.le_of_ble_eq_true rfl⟩) ⟨zPre.blind, zPre.call hN hP hD hK hE hS⟩ rfl rfl hl.1 rfl (lv_room (Nat.le_of_ble_eq_true rfl)) dL_act_341 ⟨Nat.le_refl _, Nat.le_refl _⟩) hS (fun _ _ h9 => h9) (fun _ h9 => h9) (fun r_341 _ t H locs ht hvm h_341 hB hz1 hk1 hS => ?_)
    have h_341 : r_341 = (-99999) := h_341
    subst h_341
    obtain ⟨hP, hD⟩ := hB
    rw [ht] at hP
    have hP : va_P D vwCl (wX h d cA z c ++ E) H := hP
    have hD : va_D (zA N0) (wX h d cA z c ++ E) := hD
    exact W.iret (v := (-99999)) hx hb hr (fun t ht hW => ⟨⟨_, (), rfl, rfl, ⟨by rw [ht]; exact hP, hD⟩⟩, hS.F ht⟩) hS.2.2 dL_act_344
