set_option maxHeartbeats 4000000 in
set_option maxRecDepth 100000 in
theorem law_loop {p : Program} {l : Launch} {e : Env} {s : State} {m : MethodId} {below : List Frame} {meth : Method} {cd : Code} {b L : Nat} {xs : Nat → Int32} {D : va_G} {cA : ClassId} (C9 : zC9 p l s m meth cd b L xs D cA) (hr : meth.sig.returnType = ret) (hlocks : meth.locks = false) {h h2 : Nat} {d d2 : Nat → Nat} :
    ∀ (n j : Nat), j ≤ 64 → 65 ≤ j + n → ∀ (z : S7) (c : C5), zInv (90 * j) z c → ∀ (H : Heap) (locs : List Loc), va_P D vwCl (wX h d cA z c ++ wX h2 d2 cA z c) H → va_D (zA s.heap.size) (wX h d cA z c ++ wX h2 d2 cA z c) → va_S (zA s.heap.size) s.heap H locs → ∀ (ls : Array Slot), lv_has ls 6 [(3, .int (nI j)), (2, .ref h2), (1, .ref h), (0, .ref b)] → W p l e room_1 s m #[Value.ref b] below meth cd H locs (16 + j) (96 + 6 * j) (lw_Z below #[Value.ref b] s) (F0 m 18 ls []) := by
  obtain ⟨hst, hx, hb, hml, hown, hts, hX, hbl, hK, hE, hL⟩ := id C9
  have hbA : ¬ zA s.heap.size b := Nat.not_le.mpr hbl
  intro n
  induction n with
  | zero =>
    intro j h1 h2
    exact absurd h2 (by omega)
  | succ n ih =>
    intro j hj hn z c hI H locs hP hD hS ls hl
    refine lv_iload_n hx hb dL_law_18 rfl (lv_at hl 0 rfl) ?_
    refine lv_bipush (v := 64) hx hb dL_law_19 (by decide) ?_
    refine lv_icmp_ge (tgt := 191) hx hb dL_law_21 (by decide) (fun c_21 => ?_) (fun c_21 => ?_)
    · have hf0 : 16 + j + 0 ≤ room_1.cells ∧ 96 + 6 * j + 0 ≤ room_1.slots := ⟨by show 16 + j + 0 ≤ 124; omega, by show 96 + 6 * j + 0 ≤ 952; omega⟩
      refine lv_aload_n hx hb dL_law_191 rfl (lv_at hl 2 rfl) ?_
      refine lv_aload_n hx hb dL_law_192 rfl (lv_at hl 1 rfl) ?_
      refine vp_callSi ((va_runS (As := [.ref h, .ref h2]) (rest := []) ⟨hx, hb, hml, hown, hts⟩ (c_L_areAlike l D s.heap.size cA cA h d h2 d2 z c hI.okC) (va_cwS 2 hts gL_law_L_areAlike rfl rfl rfl (by decide +kernel) ⟨Nat.le_of_ble_eq_true rfl, Nat.le_of_ble_eq_true rfl⟩) ⟨zPre.blind, zPre.call (Nat.le_refl _) hP hD hK hE hS⟩ rfl rfl hl.1 rfl (lv_room (Nat.le_of_ble_eq_true rfl)) dL_law_193 hf0).run) (fun r_193 h_193 => ?_)
      have h_193 : r_193 = 1 := h_193
      subst h_193
      refine va_forget (fun q hq => hS.2.2 q hq) ?_
      refine W.widen (k := 124) (n := 952) (by omega) (by omega) ?_
      exact lw_ret hx hb hr hlocks dL_law_196
    · have hj2 : j < 64 := Nat.not_le.mp fun q => c_21 ((nI_leI (a := 64) (by decide) (by omega)).mpr q)
      have K185 : ∀ (z : S7) (c : C5), zInv (90 * (j + 1)) z c → ∀ (H : Heap) (locs : List Loc), va_P D vwCl (wX h d cA z c ++ wX h2 d2 cA z c) H → va_D (zA s.heap.size) (wX h d cA z c ++ wX h2 d2 cA z c) → va_S (zA s.heap.size) s.heap H locs → ∀ (ls : Array Slot), lv_has ls 6 [(3, .int (nI j)), (2, .ref h2), (1, .ref h), (0, .ref b)] → W p l e room_1 s m #[Value.ref b] below meth cd H locs (16 + (j + 1)) (96 + 6 * (j + 1)) (lw_Z below #[Value.ref b] s) (F0 m 185 ls []) := by
        intro z c hI H locs hP hD hS ls hl
        refine lv_iinc (v := (nI (j + 1))) (lv' := [(3, .int (nI (j + 1))), (2, .ref h2), (1, .ref h), (0, .ref b)]) hx hb dL_law_185 hl (k := 0) rfl (z_inc j 1) (by decide) rfl (fun ls hl => ?_)
        refine lv_goto (tgt := 18) hx hb dL_law_188 (by decide) ?_
        exact ih (j + 1) (by omega) (by omega) z c hI _ _ hP hD hS ls (lv_sub hl [0, 1, 2, 3] rfl)
      have hf0 : 16 + (j + 1) + 0 ≤ room_1.cells ∧ 96 + 6 * (j + 1) + 0 ≤ room_1.slots := ⟨by show 16 + (j + 1) + 0 ≤ 124; omega, by show 96 + 6 * (j + 1) + 0 ≤ 952; omega⟩
      have hf0 : 16 + j + 0 ≤ room_1.cells ∧ 96 + 6 * j + 0 ≤ room_1.slots := ⟨by show 16 + j + 0 ≤ 124; omega, by show 96 + 6 * j + 0 ≤ 952; omega⟩
      refine lv_aload_n hx hb dL_law_24 rfl (lv_at hl 3 rfl) ?_
      refine lv_iload_n hx hb dL_law_25 rfl (lv_at hl 0 rfl) ?_
      refine vp_callSi ((va_runS (As := [.ref b, .int (nI j)]) (rest := []) ⟨hx, hb, hml, hown, hts⟩ (c_L_cell l b L xs j (by omega) (by omega)) (va_cwS 2 hts gL_law_L_cell rfl rfl rfl (by decide +kernel) ⟨Nat.le_of_ble_eq_true rfl, Nat.le_of_ble_eq_true rfl⟩) ⟨zCp.blind, zCp.call hX hbl hbA hS⟩ rfl rfl hl.1 rfl (lv_room (Nat.le_of_ble_eq_true rfl)) dL_law_26 hf0).run) (fun v _ => ?_)
      refine lv_istore (lv' := [(4, .int v), (3, .int (nI j)), (2, .ref h2), (1, .ref h), (0, .ref b)]) hx hb dL_law_29 hl (by decide) rfl (fun ls hl => ?_)
      have hf0 : 16 + (j + 1) + 0 ≤ room_1.cells ∧ 96 + 6 * (j + 1) + 0 ≤ room_1.slots := ⟨by show 16 + (j + 1) + 0 ≤ 124; omega, by show 96 + 6 * (j + 1) + 0 ≤ 952; omega⟩
      have K125 : ∀ (z : S7) (c : C5), zInv (90 * j + 50) z c → ∀ (H : Heap) (locs : List Loc), va_P D vwCl (wX h d cA z c ++ wX h2 d2 cA z c) H → va_D (zA s.heap.size) (wX h d cA z c ++ wX h2 d2 cA z c) → va_S (zA s.heap.size) s.heap H locs → ∀ (ls : Array Slot), lv_has ls 6 [(4, .int v), (3, .int (nI j)), (2, .ref h2), (1, .ref h), (0, .ref b)] → W p l e room_1 s m #[Value.ref b] below meth cd H locs (16 + (j + 1)) (96 + 6 * (j + 1)) (lw_Z below #[Value.ref b] s) (F0 m 125 ls []) := by
        intro z c hI H locs hP hD hS ls hl
        refine lv_iload_n hx hb dL_law_125 rfl (lv_at hl 1 rfl) ?_
        refine lv_bipush (v := 6) hx hb dL_law_126 (by decide) ?_
        refine lv_irem hx hb dL_law_128 (by decide) ?_
        refine lv_iconst (v := 4) hx hb dL_law_129 (by decide) ?_
        refine lv_icmp_ne (tgt := 185) hx hb dL_law_130 (by decide) (fun c_130 => ?_) (fun c_130 => ?_)
        · refine W.widen (k := 16 + (j + 1)) (n := 96 + 6 * (j + 1)) (by omega) (by omega) ?_
          exact K185 z c (hI.mono (by omega)) _ _ hP hD hS ls (lv_sub hl [1, 2, 3, 4] rfl)
        · have hw9 : zw (zLo (v >>> (2 &&& 31)) 4) := zLo_rg _ (N := 4) (by decide) (by decide)
          have hp9 : zp (zLo (v >>> (3 &&& 31)) 12001) := zLo_rg _ (N := 12001) (by decide) (by decide)
          have hI9 := (hI.ng (zw_i hw9) hp9 39).mono (B2 := 90 * (j + 1)) (by omega)
          refine lv_aload_n hx hb dL_law_133 rfl (lv_at hl 3 rfl) ?_
          refine lv_iload hx hb dL_law_134 (lv_at hl 0 rfl) ?_
          refine lv_iconst (v := 2) hx hb dL_law_136 (by decide) ?_
          refine lv_ishr hx hb dL_law_137 ?_
          refine lv_iconst (v := 4) hx hb dL_law_138 (by decide) ?_
          refine vp_callSi ((va_runS (As := [.int (v >>> (2 &&& 31)), .int 4]) (rest := [.ref h]) ⟨hx, hb, hml, hown, hts⟩ (c_L_low l (v >>> (2 &&& 31)) 4 (by decide)) (va_cwS 2 hts gL_law_L_low rfl rfl rfl (by decide +kernel) ⟨Nat.le_of_ble_eq_true rfl, Nat.le_of_ble_eq_true rfl⟩) ⟨zT.blind, zT.call⟩ rfl rfl hl.1 rfl (lv_room (Nat.le_of_ble_eq_true rfl)) dL_law_139 hf0).run) (fun r_139 h_139 => ?_)
          have h_139 : r_139 = (zLo (v >>> (2 &&& 31)) 4) := h_139
          subst h_139
          refine lv_iload hx hb dL_law_142 (lv_at hl 0 rfl) ?_
          refine lv_iconst (v := 3) hx hb dL_law_144 (by decide) ?_
          refine lv_ishr hx hb dL_law_145 ?_
          refine lv_sipush (v := 12001) hx hb dL_law_146 (by decide) ?_
          refine vp_callSi ((va_runS (As := [.int (v >>> (3 &&& 31)), .int 12001]) (rest := [.int (zLo (v >>> (2 &&& 31)) 4), .ref h]) ⟨hx, hb, hml, hown, hts⟩ (c_L_low l (v >>> (3 &&& 31)) 12001 (by decide)) (va_cwS 2 hts gL_law_L_low rfl rfl rfl (by decide +kernel) ⟨Nat.le_of_ble_eq_true rfl, Nat.le_of_ble_eq_true rfl⟩) ⟨zT.blind, zT.call⟩ rfl rfl hl.1 rfl (lv_room (Nat.le_of_ble_eq_true rfl)) dL_law_149 hf0).run) (fun r_149 h_149 => ?_)
          have h_149 : r_149 = (zLo (v >>> (3 &&& 31)) 12001) := h_149
          subst h_149
          refine va_calli (va_runS (As := [.ref h, .int (zLo (v >>> (2 &&& 31)) 4), .int (zLo (v >>> (3 &&& 31)) 12001)]) (rest := []) ⟨hx, hb, hml, hown, hts⟩ (c_L_isNudgedSo l D s.heap.size cA cA (wX h2 d2 cA z c) h d z c (zLo (v >>> (2 &&& 31)) 4) (zLo (v >>> (3 &&& 31)) 12001) hw9 hp9 hI) (va_cwS 3 hts gL_law_L_isNudgedSo rfl rfl rfl (by decide +kernel) ⟨Nat.le_of_ble_eq_true rfl, Nat.le_of_ble_eq_true rfl⟩) ⟨zPre.blind, zPre.call (Nat.le_refl _) hP hD hK hE hS⟩ rfl rfl hl.1 rfl (lv_room (Nat.le_of_ble_eq_true rfl)) dL_law_152 hf0) hS (fun _ _ h9 => h9) (fun _ h9 => h9) (fun r_152 _ t H locs ht hvm h_152 hB9 hz1 hk1 hS => ?_)
          have h_152 : r_152 = 1 := h_152
          subst h_152
          obtain ⟨hP, hD⟩ := hB9
          rw [ht] at hP
          have hP : va_P D vwCl (wX h d cA (zNg c (zLo (v >>> (2 &&& 31)) 4).toNatClampNeg (zLo (v >>> (3 &&& 31)) 12001) z 39) c ++ wX h2 d2 cA z c) H := hP
          have hD : va_D (zA s.heap.size) (wX h d cA (zNg c (zLo (v >>> (2 &&& 31)) 4).toNatClampNeg (zLo (v >>> (3 &&& 31)) 12001) z 39) c ++ wX h2 d2 cA z c) := hD
          refine lv_if_eq (tgt := 183) hx hb dL_law_155 (by decide) (fun c_155 => absurd c_155 (by decide)) (fun _ => ?_)
          refine lv_aload_n hx hb dL_law_158 rfl (lv_at hl 2 rfl) ?_
          refine lv_iload hx hb dL_law_159 (lv_at hl 0 rfl) ?_
          refine lv_iconst (v := 2) hx hb dL_law_161 (by decide) ?_
          refine lv_ishr hx hb dL_law_162 ?_
          refine lv_iconst (v := 4) hx hb dL_law_163 (by decide) ?_
          refine vp_callSi ((va_runS (As := [.int (v >>> (2 &&& 31)), .int 4]) (rest := [.ref h2]) ⟨hx, hb, hml, hown, hts⟩ (c_L_low l (v >>> (2 &&& 31)) 4 (by decide)) (va_cwS 2 hts gL_law_L_low rfl rfl rfl (by decide +kernel) ⟨Nat.le_of_ble_eq_true rfl, Nat.le_of_ble_eq_true rfl⟩) ⟨zT.blind, zT.call⟩ rfl rfl hl.1 rfl (lv_room (Nat.le_of_ble_eq_true rfl)) dL_law_164 hf0).run) (fun r_164 h_164 => ?_)
          have h_164 : r_164 = (zLo (v >>> (2 &&& 31)) 4) := h_164
          subst h_164
          refine lv_iload hx hb dL_law_167 (lv_at hl 0 rfl) ?_
          refine lv_iconst (v := 3) hx hb dL_law_169 (by decide) ?_
          refine lv_ishr hx hb dL_law_170 ?_
          refine lv_sipush (v := 12001) hx hb dL_law_171 (by decide) ?_
          refine vp_callSi ((va_runS (As := [.int (v >>> (3 &&& 31)), .int 12001]) (rest := [.int (zLo (v >>> (2 &&& 31)) 4), .ref h2]) ⟨hx, hb, hml, hown, hts⟩ (c_L_low l (v >>> (3 &&& 31)) 12001 (by decide)) (va_cwS 2 hts gL_law_L_low rfl rfl rfl (by decide +kernel) ⟨Nat.le_of_ble_eq_true rfl, Nat.le_of_ble_eq_true rfl⟩) ⟨zT.blind, zT.call⟩ rfl rfl hl.1 rfl (lv_room (Nat.le_of_ble_eq_true rfl)) dL_law_174 hf0).run) (fun r_174 h_174 => ?_)
          have h_174 : r_174 = (zLo (v >>> (3 &&& 31)) 12001) := h_174
          subst h_174
          have hP : va_P D vwCl (wX h2 d2 cA z c ++ wX h d cA (zNg c (zLo (v >>> (2 &&& 31)) 4).toNatClampNeg (zLo (v >>> (3 &&& 31)) 12001) z 39) c) H := hP.sub [8, 9, 10, 11, 12, 13, 14, 15, 0, 1, 2, 3, 4, 5, 6, 7] rfl
          have hD : va_D (zA s.heap.size) (wX h2 d2 cA z c ++ wX h d cA (zNg c (zLo (v >>> (2 &&& 31)) 4).toNatClampNeg (zLo (v >>> (3 &&& 31)) 12001) z 39) c) := hD.sub [8, 9, 10, 11, 12, 13, 14, 15, 0, 1, 2, 3, 4, 5, 6, 7] (by decide) rfl
          refine va_calli (va_runS (As := [.ref h2, .int (zLo (v >>> (2 &&& 31)) 4), .int (zLo (v >>> (3 &&& 31)) 12001)]) (rest := []) ⟨hx, hb, hml, hown, hts⟩ (c_L_isNudgedSo l D s.heap.size cA cA (wX h d cA (zNg c (zLo (v >>> (2 &&& 31)) 4).toNatClampNeg (zLo (v >>> (3 &&& 31)) 12001) z 39) c) h2 d2 z c (zLo (v >>> (2 &&& 31)) 4) (zLo (v >>> (3 &&& 31)) 12001) hw9 hp9 hI) (va_cwS 3 hts gL_law_L_isNudgedSo rfl rfl rfl (by decide +kernel) ⟨Nat.le_of_ble_eq_true rfl, Nat.le_of_ble_eq_true rfl⟩) ⟨zPre.blind, zPre.call (Nat.le_refl _) hP hD hK hE hS⟩ rfl rfl hl.1 rfl (lv_room (Nat.le_of_ble_eq_true rfl)) dL_law_177 hf0) hS (fun _ _ h9 => h9) (fun _ h9 => h9) (fun r_177 _ t H locs ht hvm h_177 hB9 hz1 hk1 hS => ?_)
          have h_177 : r_177 = 1 := h_177
          subst h_177
          obtain ⟨hP, hD⟩ := hB9
          rw [ht] at hP
          have hP : va_P D vwCl (wX h2 d2 cA (zNg c (zLo (v >>> (2 &&& 31)) 4).toNatClampNeg (zLo (v >>> (3 &&& 31)) 12001) z 39) c ++ wX h d cA (zNg c (zLo (v >>> (2 &&& 31)) 4).toNatClampNeg (zLo (v >>> (3 &&& 31)) 12001) z 39) c) H := hP
          have hD : va_D (zA s.heap.size) (wX h2 d2 cA (zNg c (zLo (v >>> (2 &&& 31)) 4).toNatClampNeg (zLo (v >>> (3 &&& 31)) 12001) z 39) c ++ wX h d cA (zNg c (zLo (v >>> (2 &&& 31)) 4).toNatClampNeg (zLo (v >>> (3 &&& 31)) 12001) z 39) c) := hD
          refine lv_if_ne (tgt := 185) hx hb dL_law_180 (by decide) (fun _ => ?_) (fun c_180 => absurd c_180 (by decide))
          have hP : va_P D vwCl (wX h d cA (zNg c (zLo (v >>> (2 &&& 31)) 4).toNatClampNeg (zLo (v >>> (3 &&& 31)) 12001) z 39) c ++ wX h2 d2 cA (zNg c (zLo (v >>> (2 &&& 31)) 4).toNatClampNeg (zLo (v >>> (3 &&& 31)) 12001) z 39) c) H := hP.sub [8, 9, 10, 11, 12, 13, 14, 15, 0, 1, 2, 3, 4, 5, 6, 7] rfl
          have hD : va_D (zA s.heap.size) (wX h d cA (zNg c (zLo (v >>> (2 &&& 31)) 4).toNatClampNeg (zLo (v >>> (3 &&& 31)) 12001) z 39) c ++ wX h2 d2 cA (zNg c (zLo (v >>> (2 &&& 31)) 4).toNatClampNeg (zLo (v >>> (3 &&& 31)) 12001) z 39) c) := hD.sub [8, 9, 10, 11, 12, 13, 14, 15, 0, 1, 2, 3, 4, 5, 6, 7] (by decide) rfl
          refine W.widen (k := 16 + (j + 1)) (n := 96 + 6 * (j + 1)) (by omega) (by omega) ?_
          exact K185 (zNg c (zLo (v >>> (2 &&& 31)) 4).toNatClampNeg (zLo (v >>> (3 &&& 31)) 12001) z 39) c hI9 _ _ hP hD hS ls (lv_sub hl [1, 2, 3, 4] rfl)
      have K99 : ∀ (z : S7) (c : C5), zInv (90 * j + 50) z c → ∀ (H : Heap) (locs : List Loc), va_P D vwCl (wX h d cA z c ++ wX h2 d2 cA z c) H → va_D (zA s.heap.size) (wX h d cA z c ++ wX h2 d2 cA z c) → va_S (zA s.heap.size) s.heap H locs → ∀ (ls : Array Slot), lv_has ls 6 [(4, .int v), (3, .int (nI j)), (2, .ref h2), (1, .ref h), (0, .ref b)] → W p l e room_1 s m #[Value.ref b] below meth cd H locs (16 + (j + 1)) (96 + 6 * (j + 1)) (lw_Z below #[Value.ref b] s) (F0 m 99 ls []) := by
        intro z c hI H locs hP hD hS ls hl
        refine lv_iload_n hx hb dL_law_99 rfl (lv_at hl 1 rfl) ?_
        refine lv_bipush (v := 8) hx hb dL_law_100 (by decide) ?_
        refine lv_irem hx hb dL_law_102 (by decide) ?_
        refine lv_iconst (v := 5) hx hb dL_law_103 (by decide) ?_
        refine lv_icmp_ne (tgt := 125) hx hb dL_law_104 (by decide) (fun c_104 => ?_) (fun c_104 => ?_)
        · refine W.widen (k := 16 + (j + 1)) (n := 96 + 6 * (j + 1)) (by omega) (by omega) ?_
          exact K125 z c hI _ _ hP hD hS ls (lv_sub hl [0, 1, 2, 3, 4] rfl)
        · refine lv_aload_n hx hb dL_law_107 rfl (lv_at hl 3 rfl) ?_
          refine lv_iload hx hb dL_law_108 (lv_at hl 0 rfl) ?_
          refine lv_iconst (v := 4) hx hb dL_law_110 (by decide) ?_
          refine lv_ishr hx hb dL_law_111 ?_
          refine lv_bipush (v := 8) hx hb dL_law_112 (by decide) ?_
          obtain ⟨md, hmd, emd⟩ := zLo_lt (v >>> (4 &&& 31)) (N := 8) (by decide) (by decide)
          refine vp_callSi ((va_runS (As := [.int (v >>> (4 &&& 31)), .int 8]) (rest := [.ref h]) ⟨hx, hb, hml, hown, hts⟩ (c_L_low l (v >>> (4 &&& 31)) 8 (by decide)) (va_cwS 2 hts gL_law_L_low rfl rfl rfl (by decide +kernel) ⟨Nat.le_of_ble_eq_true rfl, Nat.le_of_ble_eq_true rfl⟩) ⟨zT.blind, zT.call⟩ rfl rfl hl.1 rfl (lv_room (Nat.le_of_ble_eq_true rfl)) dL_law_114 hf0).run) (fun r_114 h_114 => ?_)
          have h_114 : r_114 = (zLo (v >>> (4 &&& 31)) 8) := h_114
          subst h_114
          rw [show ((zLo (v >>> (4 &&& 31)) 8) : Int32) = (nI md) from emd]
          refine vp_callSi ((va_runS (As := [.ref h, .int (nI md)]) (rest := []) ⟨hx, hb, hml, hown, hts⟩ (c_L_areKeysSo l D s.heap.size cA cA (wX h2 d2 cA z c) h d z c md hmd hI (by omega)) (va_cwS 2 hts gL_law_L_areKeysSo rfl rfl rfl (by decide +kernel) ⟨Nat.le_of_ble_eq_true rfl, Nat.le_of_ble_eq_true rfl⟩) ⟨zPre.blind, zPre.call (Nat.le_refl _) hP hD hK hE hS⟩ rfl rfl hl.1 rfl (lv_room (Nat.le_of_ble_eq_true rfl)) dL_law_117 hf0).run) (fun r_117 h_117 => ?_)
          have h_117 : r_117 = 1 := h_117
          subst h_117
          refine lv_if_ne (tgt := 125) hx hb dL_law_120 (by decide) (fun _ => ?_) (fun c_120 => absurd c_120 (by decide))
          refine W.widen (k := 16 + (j + 1)) (n := 96 + 6 * (j + 1)) (by omega) (by omega) ?_
          exact K125 z c hI _ _ hP hD hS ls (lv_sub hl [0, 1, 2, 3, 4] rfl)
      have K57 : ∀ (z : S7) (c : C5), zInv (90 * j + 50) z c → ∀ (H : Heap) (locs : List Loc), va_P D vwCl (wX h d cA z c ++ wX h2 d2 cA z c) H → va_D (zA s.heap.size) (wX h d cA z c ++ wX h2 d2 cA z c) → va_S (zA s.heap.size) s.heap H locs → ∀ (ls : Array Slot), lv_has ls 6 [(4, .int v), (3, .int (nI j)), (2, .ref h2), (1, .ref h), (0, .ref b)] → W p l e room_1 s m #[Value.ref b] below meth cd H locs (16 + (j + 1)) (96 + 6 * (j + 1)) (lw_Z below #[Value.ref b] s) (F0 m 57 ls []) := by
        intro z c hI H locs hP hD hS ls hl
        refine lv_aload_n hx hb dL_law_57 rfl (lv_at hl 3 rfl) ?_
        refine lv_aload_n hx hb dL_law_58 rfl (lv_at hl 2 rfl) ?_
        refine vp_callSi ((va_runS (As := [.ref h, .ref h2]) (rest := []) ⟨hx, hb, hml, hown, hts⟩ (c_L_areAlike l D s.heap.size cA cA h d h2 d2 z c hI.okC) (va_cwS 2 hts gL_law_L_areAlike rfl rfl rfl (by decide +kernel) ⟨Nat.le_of_ble_eq_true rfl, Nat.le_of_ble_eq_true rfl⟩) ⟨zPre.blind, zPre.call (Nat.le_refl _) hP hD hK hE hS⟩ rfl rfl hl.1 rfl (lv_room (Nat.le_of_ble_eq_true rfl)) dL_law_59 hf0).run) (fun r_59 h_59 => ?_)
        have h_59 : r_59 = 1 := h_59
        subst h_59
        refine lv_if_eq (tgt := 72) hx hb dL_law_62 (by decide) (fun c_62 => absurd c_62 (by decide)) (fun _ => ?_)
        refine lv_aload_n hx hb dL_law_65 rfl (lv_at hl 3 rfl) ?_
        refine vp_callSi ((va_runS (As := [.ref h]) (rest := []) ⟨hx, hb, hml, hown, hts⟩ (c_L_areWrensSo l D s.heap.size cA cA (wX h2 d2 cA z c) h d z c hI (by omega)) (va_cwS 1 hts gL_law_L_areWrensSo rfl rfl rfl (by decide +kernel) ⟨Nat.le_of_ble_eq_true rfl, Nat.le_of_ble_eq_true rfl⟩) ⟨zPre.blind, zPre.call (Nat.le_refl _) hP hD hK hE hS⟩ rfl rfl hl.1 rfl (lv_room (Nat.le_of_ble_eq_true rfl)) dL_law_66 hf0).run) (fun r_66 h_66 => ?_)
        have h_66 : r_66 = 1 := h_66
        subst h_66
        refine lv_if_ne (tgt := 74) hx hb dL_law_69 (by decide) (fun _ => ?_) (fun c_69 => absurd c_69 (by decide))
        refine lv_iload_n hx hb dL_law_74 rfl (lv_at hl 1 rfl) ?_
        refine lv_bipush (v := 8) hx hb dL_law_75 (by decide) ?_
        refine lv_irem hx hb dL_law_77 (by decide) ?_
        refine lv_iconst (v := 3) hx hb dL_law_78 (by decide) ?_
        refine lv_icmp_ne (tgt := 99) hx hb dL_law_79 (by decide) (fun c_79 => ?_) (fun c_79 => ?_)
        · refine W.widen (k := 16 + (j + 1)) (n := 96 + 6 * (j + 1)) (by omega) (by omega) ?_
          exact K99 z c hI _ _ hP hD hS ls (lv_sub hl [0, 1, 2, 3, 4] rfl)
        · refine lv_aload_n hx hb dL_law_82 rfl (lv_at hl 3 rfl) ?_
          refine lv_iload hx hb dL_law_83 (lv_at hl 0 rfl) ?_
          refine lv_iconst (v := 3) hx hb dL_law_85 (by decide) ?_
          refine lv_ishr hx hb dL_law_86 ?_
          refine lv_sipush (v := 12001) hx hb dL_law_87 (by decide) ?_
          obtain ⟨a, ha, ea⟩ := zLo_lt (v >>> (3 &&& 31)) (N := 12001) (by decide) (by decide)
          refine vp_callSi ((va_runS (As := [.int (v >>> (3 &&& 31)), .int 12001]) (rest := [.ref h]) ⟨hx, hb, hml, hown, hts⟩ (c_L_low l (v >>> (3 &&& 31)) 12001 (by decide)) (va_cwS 2 hts gL_law_L_low rfl rfl rfl (by decide +kernel) ⟨Nat.le_of_ble_eq_true rfl, Nat.le_of_ble_eq_true rfl⟩) ⟨zT.blind, zT.call⟩ rfl rfl hl.1 rfl (lv_room (Nat.le_of_ble_eq_true rfl)) dL_law_90 hf0).run) (fun r_90 h_90 => ?_)
          have h_90 : r_90 = (zLo (v >>> (3 &&& 31)) 12001) := h_90
          subst h_90
          rw [show ((zLo (v >>> (3 &&& 31)) 12001) : Int32) = (nI a) from ea]
          refine vp_callSi ((va_runS (As := [.ref h, .int (nI a)]) (rest := []) ⟨hx, hb, hml, hown, hts⟩ (c_L_isScaleSo l D s.heap.size cA cA (wX h2 d2 cA z c) h d z c a (by omega) hI.okC) (va_cwS 2 hts gL_law_L_isScaleSo rfl rfl rfl (by decide +kernel) ⟨Nat.le_of_ble_eq_true rfl, Nat.le_of_ble_eq_true rfl⟩) ⟨zPre.blind, zPre.call (Nat.le_refl _) hP hD hK hE hS⟩ rfl rfl hl.1 rfl (lv_room (Nat.le_of_ble_eq_true rfl)) dL_law_93 hf0).run) (fun r_93 h_93 => ?_)
          have h_93 : r_93 = 1 := h_93
          subst h_93
          refine lv_if_eq (tgt := 123) hx hb dL_law_96 (by decide) (fun c_96 => absurd c_96 (by decide)) (fun _ => ?_)
          refine W.widen (k := 16 + (j + 1)) (n := 96 + 6 * (j + 1)) (by omega) (by omega) ?_
          exact K99 z c hI _ _ hP hD hS ls (lv_sub hl [0, 1, 2, 3, 4] rfl)
      rcases act_any v hI (by omega) with ⟨told, z2, c2, hne, hI2, hM⟩ | hM
      · have hf0 : 16 + j + 0 ≤ room_1.cells ∧ 96 + 6 * j + 0 ≤ room_1.slots := ⟨by show 16 + j + 0 ≤ 124; omega, by show 96 + 6 * j + 0 ≤ 952; omega⟩
        refine lv_aload_n hx hb dL_law_31 rfl (lv_at hl 3 rfl) ?_
        refine lv_iload hx hb dL_law_32 (lv_at hl 0 rfl) ?_
        refine va_calli (va_runS (As := [.ref h, .int v]) (rest := []) ⟨hx, hb, hml, hown, hts⟩ (hM l D s.heap.size cA cA (wX h2 d2 cA z c) h d) (va_cwS 2 hts gL_law_L_act rfl rfl rfl (by decide +kernel) ⟨Nat.le_of_ble_eq_true rfl, Nat.le_of_ble_eq_true rfl⟩) ⟨zPre.blind, zPre.call (Nat.le_refl _) hP hD hK hE hS⟩ rfl rfl hl.1 rfl (lv_room (Nat.le_of_ble_eq_true rfl)) dL_law_34 hf0) hS (fun _ _ h9 => h9) (fun _ h9 => h9) (fun r_34 _ t H locs ht hvm h_34 hB9 hz1 hk1 hS => ?_)
        have h_34 : r_34 = told := h_34
        rw [h_34]
        obtain ⟨hP, hD⟩ := hB9
        rw [ht] at hP
        have hP : va_P D vwCl (wX h d cA z2 c2 ++ wX h2 d2 cA z c) H := hP
        have hD : va_D (zA s.heap.size) (wX h d cA z2 c2 ++ wX h2 d2 cA z c) := hD
        refine lv_istore (lv' := [(5, .int told), (4, .int v), (3, .int (nI j)), (2, .ref h2), (1, .ref h), (0, .ref b)]) hx hb dL_law_37 hl (by decide) rfl (fun ls hl => ?_)
        refine lv_iload hx hb dL_law_39 (lv_at hl 0 rfl) ?_
        refine lv_ldc (v := (-99999)) hx hb hown (hts (.constant RL 16 (-99999)) (by decide +kernel)) dL_law_41 ?_
        refine lv_icmp_eq (tgt := 57) hx hb dL_law_43 (by decide) (fun c_43 => ?_) (fun c_43 => ?_)
        · exact absurd c_43 hne
        · refine lv_aload_n hx hb dL_law_46 rfl (lv_at hl 3 rfl) ?_
          refine lv_iload hx hb dL_law_47 (lv_at hl 1 rfl) ?_
          have hP : va_P D vwCl (wX h2 d2 cA z c ++ wX h d cA z2 c2) H := hP.sub [8, 9, 10, 11, 12, 13, 14, 15, 0, 1, 2, 3, 4, 5, 6, 7] rfl
          have hD : va_D (zA s.heap.size) (wX h2 d2 cA z c ++ wX h d cA z2 c2) := hD.sub [8, 9, 10, 11, 12, 13, 14, 15, 0, 1, 2, 3, 4, 5, 6, 7] (by decide) rfl
          refine va_calli (va_runS (As := [.ref h2, .int v]) (rest := []) ⟨hx, hb, hml, hown, hts⟩ (hM l D s.heap.size cA cA (wX h d cA z2 c2) h2 d2) (va_cwS 2 hts gL_law_L_act rfl rfl rfl (by decide +kernel) ⟨Nat.le_of_ble_eq_true rfl, Nat.le_of_ble_eq_true rfl⟩) ⟨zPre.blind, zPre.call (Nat.le_refl _) hP hD hK hE hS⟩ rfl rfl hl.1 rfl (lv_room (Nat.le_of_ble_eq_true rfl)) dL_law_49 hf0) hS (fun _ _ h9 => h9) (fun _ h9 => h9) (fun r_49 _ t H locs ht hvm h_49 hB9 hz1 hk1 hS => ?_)
          have h_49 : r_49 = told := h_49
          rw [h_49]
          obtain ⟨hP, hD⟩ := hB9
          rw [ht] at hP
          have hP : va_P D vwCl (wX h2 d2 cA z2 c2 ++ wX h d cA z2 c2) H := hP
          have hD : va_D (zA s.heap.size) (wX h2 d2 cA z2 c2 ++ wX h d cA z2 c2) := hD
          refine lv_iload hx hb dL_law_52 (lv_at hl 0 rfl) ?_
          refine lv_icmp_ne (tgt := 72) hx hb dL_law_54 (by decide) (fun c_54 => ?_) (fun c_54 => ?_)
          · exact absurd rfl c_54
          · have hP : va_P D vwCl (wX h d cA z2 c2 ++ wX h2 d2 cA z2 c2) H := hP.sub [8, 9, 10, 11, 12, 13, 14, 15, 0, 1, 2, 3, 4, 5, 6, 7] rfl
            have hD : va_D (zA s.heap.size) (wX h d cA z2 c2 ++ wX h2 d2 cA z2 c2) := hD.sub [8, 9, 10, 11, 12, 13, 14, 15, 0, 1, 2, 3, 4, 5, 6, 7] (by decide) rfl
            refine W.widen (k := 16 + (j + 1)) (n := 96 + 6 * (j + 1)) (by omega) (by omega) ?_
            exact K57 z2 c2 hI2 _ _ hP hD hS ls (lv_sub hl [1, 2, 3, 4, 5] rfl)
      · have hf1 : 16 + j + 1 ≤ room_1.cells ∧ 96 + 6 * j + 6 ≤ room_1.slots := ⟨by show 16 + j + 1 ≤ 124; omega, by show 96 + 6 * j + 6 ≤ 952; omega⟩
        refine lv_aload_n hx hb dL_law_31 rfl (lv_at hl 3 rfl) ?_
        refine lv_iload hx hb dL_law_32 (lv_at hl 0 rfl) ?_
        refine va_calli (va_runS (As := [.ref h, .int v]) (rest := []) ⟨hx, hb, hml, hown, hts⟩ (hM l hst D s.heap.size cA cA (wX h2 d2 cA z c) h d) (va_cwS 2 hts gL_law_L_act rfl rfl rfl (by decide +kernel) ⟨Nat.le_of_ble_eq_true rfl, Nat.le_of_ble_eq_true rfl⟩) ⟨zPre.blind, zPre.call (Nat.le_refl _) hP hD hK hE hS⟩ rfl rfl hl.1 rfl (lv_room (Nat.le_of_ble_eq_true rfl)) dL_law_34 hf1) hS (fun _ _ h9 => h9) (fun _ h9 => h9) (fun r_34 _ t H locs ht hvm h_34 hB9 hz1 hk1 hS => ?_)
        have h_34 : r_34 = (-99999) := h_34
        subst h_34
        obtain ⟨hP, hD⟩ := hB9
        rw [ht] at hP
        have hP : va_P D vwCl (wX h d cA z c ++ wX h2 d2 cA z c) H := hP
        have hD : va_D (zA s.heap.size) (wX h d cA z c ++ wX h2 d2 cA z c) := hD
        refine lv_istore (lv' := [(5, .int (-99999)), (4, .int v), (3, .int (nI j)), (2, .ref h2), (1, .ref h), (0, .ref b)]) hx hb dL_law_37 hl (by decide) rfl (fun ls hl => ?_)
        refine lv_iload hx hb dL_law_39 (lv_at hl 0 rfl) ?_
        refine lv_ldc (v := (-99999)) hx hb hown (hts (.constant RL 16 (-99999)) (by decide +kernel)) dL_law_41 ?_
        refine lv_icmp_eq (tgt := 57) hx hb dL_law_43 (by decide) (fun _ => ?_) (fun c_43 => absurd c_43 (by decide))
        refine W.widen (k := 16 + (j + 1)) (n := 96 + 6 * (j + 1)) (by omega) (by omega) ?_
        exact K57 z c (hI.mono (by omega)) _ _ hP hD hS ls (lv_sub hl [1, 2, 3, 4, 5] rfl)
