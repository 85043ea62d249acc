def zPv (b : Nat) : Int32 := if b = 0 then -1 else nI (100 * (b - 1))
theorem zPv_s (j : Nat) : zPv (j + 1) = nI (100 * j) := if_neg (Nat.succ_ne_zero j)
theorem zPv_p {b : Nat} (h : ¬ b = 0) : zPv b = nI (100 * (b - 1)) := if_neg h
theorem zPv_1 {b j : Nat} (h : b ≤ j) (hj : j ≤ 120) : ¬ nI (100 * j) ≤ zPv b := by
  by_cases q : b = 0
  · subst q
    exact fun x => nI_pos (n := 100 * j) (by omega) (Int32.lt_of_le_of_lt x (by decide))
  · rw [zPv_p q]
    exact fun x => by have := (nI_leI (by omega) (by omega)).mp x; omega
theorem zPv_2 {b : Nat} (h : 120 ≤ b) (hb : b ≤ 121) : ¬ zPv b ≤ 11800 := by
  rw [zPv_p (by omega)]
  exact fun x => by have := (nI_leI (b := 11800) (by omega) (by decide)).mp x; omega
theorem zPv_3 {b j : Nat} (h0 : ¬ b = 0) (h : j ≤ b + 1) (h2 : b ≤ j) (hj : j ≤ 120) : ¬ 200 < nI (100 * j) - zPv b := by
  rw [zPv_p h0, pk_sub (by omega)]
  exact fun x => by have := (nI_ltI (a := 200) (by decide) (by omega)).mp x; omega
theorem zJ_rem (j : Nat) (hj : j ≤ 120) : nI (100 * j) - nI (100 * j) / 100 * 100 = 0 := by
  have e1 : nI (100 * j) - nI (100 * j) / 100 * 100 = nI (100 * j % 100) := pk_rem (d := 100) (by omega) (by decide) (by decide)
  exact (e1.trans (congrArg nI (Nat.mul_mod_right 100 j))).trans nI_0
theorem zKp {c : C5} {b k : Nat} (hk : zCt c b = k) (hb : b ≤ 121) (h : ¬ nI k ≤ 0) : ¬ b = 0 := by
  intro q
  subst q
  subst hk
  exact h (show nI 0 ≤ 0 by decide)
theorem zMet {c : C5} {b j j0 : Nat} (hjb : j = b ∨ (j = b + 1 ∧ zStep c (nI (100 * b)) = -1)) (h0 : zH c j0) (h1 : ¬ j0 < b) (h2 : ¬ j = j0) : ¬ j0 < j + 1 := by
  rcases hjb with rfl | ⟨rfl, q⟩
  · omega
  · have : ¬ j0 = b := fun e => h0 (by rw [e]; exact q)
    omega
theorem zNn_1 {c : C5} (hc : okC c) (h : nI (zCt c 121) ≤ 100) : zNn c.2.1 = 7 := by
  have h0 := zCt_70 hc
  have h1 := (nI_leI (b := 100) (by omega) (by decide)).mp h
  exact if_neg (fun q => by have := (zCt_121 hc).1 q; omega)
theorem zNn_2 {c : C5} (hc : okC c) (h : ¬ nI (zCt c 121) ≤ 100) : zNn c.2.1 = 12 := by
  have h0 := zCt_70 hc
  refine if_pos (Decidable.byContradiction fun q => h ?_)
  have := (zCt_121 hc).2 q
  exact (nI_leI (b := 100) (by omega) (by decide)).mpr (by omega)
theorem zNum {c : C5} (hc : okC c) : zCt c 121 = 121 ∨ zCt c 121 = 70 ∨ zCt c 121 = 71 := by
  by_cases q : c.2.1 = 7
  · exact Or.inl ((zCt_121 hc).1 q)
  · exact Or.inr ((zCt_121 hc).2 q)
set_option maxHeartbeats 4000000 in
set_option maxRecDepth 100000 in
theorem c_L_isScaleSo (l : Launch) (D : va_G) (N0 : Nat) (cA cL : ClassId) (E : va_W) (h : Nat) (d : Nat → Nat) (z : S7) (c : C5) (a : Nat) (ha : a ≤ 12000) (hc : okC c) : Met l yL_isScaleSo wsL_isScaleSo ({ frames := 6, cells := 0, slots := 0, locals := 134 }) (va_Pc [.ref h, .int (nI a)] (zPre D N0 cA cL (wX h d cA z c ++ E))) (vp_Si (fun rv => rv = 1)) 0 0 (fun _ => False) := by
  refine Met.ofW (cc := cL_isScaleSo) (maxL := 10) (ret := (some .boolean)) (by decide) rfl ?_
  intro pr e s m ag below meth cd s₁ B hml hv
  obtain ⟨rfl, hN, hP, hD, hK, hE⟩ := hv
  have hx := B.exec
  have hb := B.bytes
  have hr := B.returns
  have hts := atoms_spec (ws := wsL_isScaleSo) B.pre
  have hown : s.vm.findClass RL = some m.cls := findClass_of_methodNamed B.named
  have hlocks := B.notSynchronized
  have hS : va_S (zA N0) s.heap s.heap [] := va_S.rf
  have hl := lv_entry ([.ref h, .int (nI a)]) (n := 10) (Nat.le_of_ble_eq_true rfl)
  rw [lg_entry_eq]
  generalize (lg_sl ([.ref h, .int (nI a)]) ++ List.replicate (10 - (lg_sl ([.ref h, .int (nI a)])).length) Slot.unset).toArray = ls at hl ⊢
  have hl : lv_has ls 10 [(0, .ref h), (1, .int (nI a))] := hl
  obtain ⟨j0, hj0, eN, hH0, hmin⟩ := zNear_s hc ha
  have hp : zp (nI a) := ⟨nI_pos' (by omega), (nI_leI (b := 12000) (by omega) (by decide)).mpr ha⟩
  have hn70 := zCt_70 hc
  have hd0 := zD_lt ha hj0
  have loop : ∀ (n : Nat) (k b : Nat), b ≤ 121 → zCt c b = k → b = 0 ∨ zH c (b - 1) → 122 ≤ k + n → ∀ (ls : Array Slot), lv_has ls 10 [(7, .int (nI k)), (6, .int (zb (j0 < b))), (5, .int (zPv b)), (4, .int (nI (zD a j0))), (3, .int (nI (100 * j0))), (2, .int (nI (zCt c 121))), (1, .int (nI a)), (0, .ref h)] → W pr l e (headSpec wsL_isScaleSo ({ frames := 6, cells := 0, slots := 0, locals := 134 })).room s m ([.ref h, .int (nI a)] : List Value).toArray below meth cd s.heap [] 0 0 (MQ below (vp_Si (fun rv => rv = 1)) ([.ref h, .int (nI a)] : List Value).toArray s 0 0 (fun _ => False)) (F0 m 36 ls []) := by
    intro n
    induction n with
    | zero =>
      intro k b hb1 hk hbH hn
      have := zCt_le c b; omega
    | succ n ih =>
      intro k b hb1 hk hbH hn ls hl
      have hkb := zCt_le c b
      refine lv_iload hx hb dL_isScaleSo_36 (lv_at hl 0 rfl) ?_
      refine lv_iload_n hx hb dL_isScaleSo_38 rfl (lv_at hl 5 rfl) ?_
      refine lv_icmp_ge (tgt := 214) hx hb dL_isScaleSo_39 (by decide) (fun c_39 => ?_) (fun c_39 => ?_)
      · have hk9 : zCt c b = zCt c 121 := by
          have h1 := (nI_leI (by omega) (by omega)).mp c_39
          have h2 := zCt_le2 c hb1
          omega
        obtain ⟨hb9, hl9⟩ := zLast hc hb1 hk9
        refine lv_iload hx hb dL_isScaleSo_214 (lv_at hl 1 rfl) ?_
        refine lv_if_eq (tgt := 260) hx hb dL_isScaleSo_216 (by decide) (fun c_216 => ?_) (fun c_216 => ?_)
        · exact absurd (hl9 j0 hj0 hH0) (zb_f c_216)
        · refine lv_iload_n hx hb dL_isScaleSo_219 rfl (lv_at hl 5 rfl) ?_
          refine lv_bipush (v := 121) hx hb dL_isScaleSo_220 (by decide) ?_
          refine lv_icmp_eq (tgt := 237) hx hb dL_isScaleSo_222 (by decide) (fun c_222 => ?_) (fun c_222 => ?_)
          · refine lv_iload hx hb dL_isScaleSo_237 (lv_at hl 2 rfl) ?_
            refine lv_sipush (v := 11800) hx hb dL_isScaleSo_239 (by decide) ?_
            refine lv_icmp_le (tgt := 260) hx hb dL_isScaleSo_242 (by decide) (fun c_242 => ?_) (fun c_242 => ?_)
            · exact absurd c_242 (zPv_2 hb9 hb1)
            · refine lv_aload_n hx hb dL_isScaleSo_245 rfl (lv_at hl 7 rfl) ?_
              refine lv_iconst (v := 0) hx hb dL_isScaleSo_246 (by decide) ?_
              refine vp_callSi ((va_runV (As := [.int 0]) (rest := []) ⟨hx, hb, hml, hown, hts⟩ (c_X0_rung_v l D N0 cA cL E h d z c 0 hc (zRg_p hc (m := 0) (by decide))) (cwV 1 hts gL_isScaleSo_X0_rung rfl rfl rfl (by decide +kernel) ⟨Nat.le_of_ble_eq_true rfl, Nat.le_of_ble_eq_true rfl⟩) ⟨zPre.blind, va_recv hK hP (ci := 0) (q0 := 0) rfl rfl, zPre.call hN hP hD hK hE hS⟩ rfl rfl hl.1 rfl (lv_room (Nat.le_of_ble_eq_true rfl)) dL_isScaleSo_247 ⟨Nat.zero_le _, Nat.zero_le _⟩).run) (fun r_247 h_247 => ?_)
              have h_247 : r_247 = (zRg c 0) := h_247
              subst h_247
              refine lv_sipush (v := 200) hx hb dL_isScaleSo_250 (by decide) ?_
              refine lv_icmp_ge (tgt := 260) hx hb dL_isScaleSo_253 (by decide) (fun c_253 => ?_) (fun c_253 => ?_)
              · exact absurd c_253 (fun q => by obtain ⟨i, hi, ei⟩ := zRg_0 hc; rw [ei] at q; have := (nI_leI (a := 200) (by decide) (by omega)).mp q; omega)
              · refine lv_iconst (v := 1) hx hb dL_isScaleSo_256 (by decide) ?_
                refine lv_goto (tgt := 261) hx hb dL_isScaleSo_257 (by decide) ?_
                exact W.zret (v := 1) hx hb hr rfl (fun t ht hW => ⟨_, rfl, rfl, ht⟩) (fun _ h9 => nomatch h9) dL_isScaleSo_261
          · refine lv_iload_n hx hb dL_isScaleSo_225 rfl (lv_at hl 5 rfl) ?_
            refine lv_bipush (v := 70) hx hb dL_isScaleSo_226 (by decide) ?_
            refine lv_icmp_eq (tgt := 237) hx hb dL_isScaleSo_228 (by decide) (fun c_228 => ?_) (fun c_228 => ?_)
            · refine lv_iload hx hb dL_isScaleSo_237 (lv_at hl 2 rfl) ?_
              refine lv_sipush (v := 11800) hx hb dL_isScaleSo_239 (by decide) ?_
              refine lv_icmp_le (tgt := 260) hx hb dL_isScaleSo_242 (by decide) (fun c_242 => ?_) (fun c_242 => ?_)
              · exact absurd c_242 (zPv_2 hb9 hb1)
              · refine lv_aload_n hx hb dL_isScaleSo_245 rfl (lv_at hl 7 rfl) ?_
                refine lv_iconst (v := 0) hx hb dL_isScaleSo_246 (by decide) ?_
                refine vp_callSi ((va_runV (As := [.int 0]) (rest := []) ⟨hx, hb, hml, hown, hts⟩ (c_X0_rung_v l D N0 cA cL E h d z c 0 hc (zRg_p hc (m := 0) (by decide))) (cwV 1 hts gL_isScaleSo_X0_rung rfl rfl rfl (by decide +kernel) ⟨Nat.le_of_ble_eq_true rfl, Nat.le_of_ble_eq_true rfl⟩) ⟨zPre.blind, va_recv hK hP (ci := 0) (q0 := 0) rfl rfl, zPre.call hN hP hD hK hE hS⟩ rfl rfl hl.1 rfl (lv_room (Nat.le_of_ble_eq_true rfl)) dL_isScaleSo_247 ⟨Nat.zero_le _, Nat.zero_le _⟩).run) (fun r_247 h_247 => ?_)
                have h_247 : r_247 = (zRg c 0) := h_247
                subst h_247
                refine lv_sipush (v := 200) hx hb dL_isScaleSo_250 (by decide) ?_
                refine lv_icmp_ge (tgt := 260) hx hb dL_isScaleSo_253 (by decide) (fun c_253 => ?_) (fun c_253 => ?_)
                · exact absurd c_253 (fun q => by obtain ⟨i, hi, ei⟩ := zRg_0 hc; rw [ei] at q; have := (nI_leI (a := 200) (by decide) (by omega)).mp q; omega)
                · refine lv_iconst (v := 1) hx hb dL_isScaleSo_256 (by decide) ?_
                  refine lv_goto (tgt := 261) hx hb dL_isScaleSo_257 (by decide) ?_
                  exact W.zret (v := 1) hx hb hr rfl (fun t ht hW => ⟨_, rfl, rfl, ht⟩) (fun _ h9 => nomatch h9) dL_isScaleSo_261
            · refine lv_iload_n hx hb dL_isScaleSo_231 rfl (lv_at hl 5 rfl) ?_
              refine lv_bipush (v := 71) hx hb dL_isScaleSo_232 (by decide) ?_
              refine lv_icmp_ne (tgt := 260) hx hb dL_isScaleSo_234 (by decide) (fun c_234 => ?_) (fun c_234 => ?_)
              · exact absurd (zNum hc) (fun q => by rcases q with q | q | q; exact c_222 (congrArg nI q); exact c_228 (congrArg nI q); exact c_234 (congrArg nI q))
              · refine lv_iload hx hb dL_isScaleSo_237 (lv_at hl 2 rfl) ?_
                refine lv_sipush (v := 11800) hx hb dL_isScaleSo_239 (by decide) ?_
                refine lv_icmp_le (tgt := 260) hx hb dL_isScaleSo_242 (by decide) (fun c_242 => ?_) (fun c_242 => ?_)
                · exact absurd c_242 (zPv_2 hb9 hb1)
                · refine lv_aload_n hx hb dL_isScaleSo_245 rfl (lv_at hl 7 rfl) ?_
                  refine lv_iconst (v := 0) hx hb dL_isScaleSo_246 (by decide) ?_
                  refine vp_callSi ((va_runV (As := [.int 0]) (rest := []) ⟨hx, hb, hml, hown, hts⟩ (c_X0_rung_v l D N0 cA cL E h d z c 0 hc (zRg_p hc (m := 0) (by decide))) (cwV 1 hts gL_isScaleSo_X0_rung rfl rfl rfl (by decide +kernel) ⟨Nat.le_of_ble_eq_true rfl, Nat.le_of_ble_eq_true rfl⟩) ⟨zPre.blind, va_recv hK hP (ci := 0) (q0 := 0) rfl rfl, zPre.call hN hP hD hK hE hS⟩ rfl rfl hl.1 rfl (lv_room (Nat.le_of_ble_eq_true rfl)) dL_isScaleSo_247 ⟨Nat.zero_le _, Nat.zero_le _⟩).run) (fun r_247 h_247 => ?_)
                  have h_247 : r_247 = (zRg c 0) := h_247
                  subst h_247
                  refine lv_sipush (v := 200) hx hb dL_isScaleSo_250 (by decide) ?_
                  refine lv_icmp_ge (tgt := 260) hx hb dL_isScaleSo_253 (by decide) (fun c_253 => ?_) (fun c_253 => ?_)
                  · exact absurd c_253 (fun q => by obtain ⟨i, hi, ei⟩ := zRg_0 hc; rw [ei] at q; have := (nI_leI (a := 200) (by decide) (by omega)).mp q; omega)
                  · refine lv_iconst (v := 1) hx hb dL_isScaleSo_256 (by decide) ?_
                    refine lv_goto (tgt := 261) hx hb dL_isScaleSo_257 (by decide) ?_
                    exact W.zret (v := 1) hx hb hr rfl (fun t ht hW => ⟨_, rfl, rfl, ht⟩) (fun _ h9 => nomatch h9) dL_isScaleSo_261
      · have hk8 : zCt c b < zCt c 121 := by
          rw [hk]
          exact Nat.not_le.mp fun q => c_39 ((nI_leI (by omega) (by omega)).mpr q)
        obtain ⟨j, hj, hjH, hjc, hjb⟩ := zNx hc hb1 hk8
        have hjb2 : b ≤ j ∧ j ≤ b + 1 := by rcases hjb with q | ⟨q, -⟩ <;> omega
        have hrg : zRg c (nI k) = nI (100 * j) := zRg_s hc hj hjH (hjc.trans hk)
        have hmn := hmin j hj hjH
        have hd1 := zD_lt ha hj
        have J186 : ∀ (ls : Array Slot), lv_has ls 10 [(9, .int (nI (zD a j))), (8, .int (nI (100 * j))), (7, .int (nI k)), (6, .int (zb (j0 < b))), (5, .int (zPv b)), (4, .int (nI (zD a j0))), (3, .int (nI (100 * j0))), (2, .int (nI (zCt c 121))), (1, .int (nI a)), (0, .ref h)] → W pr l e (headSpec wsL_isScaleSo ({ frames := 6, cells := 0, slots := 0, locals := 134 })).room s m ([.ref h, .int (nI a)] : List Value).toArray below meth cd s.heap [] 0 0 (MQ below (vp_Si (fun rv => rv = 1)) ([.ref h, .int (nI a)] : List Value).toArray s 0 0 (fun _ => False)) (F0 m 186 ls []) := by
          intro ls hl
          refine lv_iload hx hb dL_isScaleSo_186 (lv_at hl 3 rfl) ?_
          refine lv_if_ne (tgt := 197) hx hb dL_isScaleSo_188 (by decide) (fun c_188 => ?_) (fun c_188 => ?_)
          · refine lv_iconst (v := 1) hx hb dL_isScaleSo_197 (by decide) ?_
            refine lv_goto (tgt := 202) hx hb dL_isScaleSo_198 (by decide) ?_
            refine lv_istore (lv' := [(6, .int 1), (9, .int (nI (zD a j))), (8, .int (nI (100 * j))), (7, .int (nI k)), (5, .int (zPv b)), (4, .int (nI (zD a j0))), (3, .int (nI (100 * j0))), (2, .int (nI (zCt c 121))), (1, .int (nI a)), (0, .ref h)]) hx hb dL_isScaleSo_202 hl (by decide) rfl (fun ls hl => ?_)
            refine lv_iload hx hb dL_isScaleSo_204 (lv_at hl 2 rfl) ?_
            refine lv_istore (lv' := [(5, .int (nI (100 * j))), (6, .int 1), (9, .int (nI (zD a j))), (8, .int (nI (100 * j))), (7, .int (nI k)), (4, .int (nI (zD a j0))), (3, .int (nI (100 * j0))), (2, .int (nI (zCt c 121))), (1, .int (nI a)), (0, .ref h)]) hx hb dL_isScaleSo_206 hl (by decide) rfl (fun ls hl => ?_)
            refine lv_iinc (v := (nI (k + 1))) (lv' := [(7, .int (nI (k + 1))), (5, .int (nI (100 * j))), (6, .int 1), (9, .int (nI (zD a j))), (8, .int (nI (100 * j))), (4, .int (nI (zD a j0))), (3, .int (nI (100 * j0))), (2, .int (nI (zCt c 121))), (1, .int (nI a)), (0, .ref h)]) hx hb dL_isScaleSo_208 hl (k := 4) rfl (z_inc k 1) (by decide) rfl (fun ls hl => ?_)
            refine lv_goto (tgt := 36) hx hb dL_isScaleSo_211 (by decide) ?_
            have hl : lv_has ls 10 [(7, .int (nI (k + 1))), (5, .int (zPv (j + 1))), (6, .int (zb (j0 < j + 1))), (9, .int (nI (zD a j))), (8, .int (nI (100 * j))), (4, .int (nI (zD a j0))), (3, .int (nI (100 * j0))), (2, .int (nI (zCt c 121))), (1, .int (nI a)), (0, .ref h)] := by
              rw [show (zPv (j + 1) : Int32) = (nI (100 * j)) from (zPv_s j), show (zb (j0 < j + 1) : Int32) = 1 from (zb_1 (by have := zb_t c_188; omega))]
              exact hl
            exact ih (k + 1) (j + 1) (by omega) (by rw [zCt_1 hc hjH, hjc, hk]) (Or.inr hjH) (by omega) ls (lv_sub hl [0, 2, 1, 5, 6, 7, 8, 9] rfl)
          · refine lv_iload hx hb dL_isScaleSo_191 (lv_at hl 1 rfl) ?_
            refine lv_iload_n hx hb dL_isScaleSo_193 rfl (lv_at hl 6 rfl) ?_
            refine lv_icmp_ne (tgt := 201) hx hb dL_isScaleSo_194 (by decide) (fun c_194 => ?_) (fun c_194 => ?_)
            · refine lv_iconst (v := 0) hx hb dL_isScaleSo_201 (by decide) ?_
              refine lv_istore (lv' := [(6, .int 0), (9, .int (nI (zD a j))), (8, .int (nI (100 * j))), (7, .int (nI k)), (5, .int (zPv b)), (4, .int (nI (zD a j0))), (3, .int (nI (100 * j0))), (2, .int (nI (zCt c 121))), (1, .int (nI a)), (0, .ref h)]) hx hb dL_isScaleSo_202 hl (by decide) rfl (fun ls hl => ?_)
              refine lv_iload hx hb dL_isScaleSo_204 (lv_at hl 2 rfl) ?_
              refine lv_istore (lv' := [(5, .int (nI (100 * j))), (6, .int 0), (9, .int (nI (zD a j))), (8, .int (nI (100 * j))), (7, .int (nI k)), (4, .int (nI (zD a j0))), (3, .int (nI (100 * j0))), (2, .int (nI (zCt c 121))), (1, .int (nI a)), (0, .ref h)]) hx hb dL_isScaleSo_206 hl (by decide) rfl (fun ls hl => ?_)
              refine lv_iinc (v := (nI (k + 1))) (lv' := [(7, .int (nI (k + 1))), (5, .int (nI (100 * j))), (6, .int 0), (9, .int (nI (zD a j))), (8, .int (nI (100 * j))), (4, .int (nI (zD a j0))), (3, .int (nI (100 * j0))), (2, .int (nI (zCt c 121))), (1, .int (nI a)), (0, .ref h)]) hx hb dL_isScaleSo_208 hl (k := 4) rfl (z_inc k 1) (by decide) rfl (fun ls hl => ?_)
              refine lv_goto (tgt := 36) hx hb dL_isScaleSo_211 (by decide) ?_
              have hl : lv_has ls 10 [(7, .int (nI (k + 1))), (5, .int (zPv (j + 1))), (6, .int (zb (j0 < j + 1))), (9, .int (nI (zD a j))), (8, .int (nI (100 * j))), (4, .int (nI (zD a j0))), (3, .int (nI (100 * j0))), (2, .int (nI (zCt c 121))), (1, .int (nI a)), (0, .ref h)] := by
                rw [show (zPv (j + 1) : Int32) = (nI (100 * j)) from (zPv_s j), show (zb (j0 < j + 1) : Int32) = 0 from (zb_0 (zMet hjb hH0 (zb_f c_188) (fun q => c_194 (by rw [q]))))]
                exact hl
              exact ih (k + 1) (j + 1) (by omega) (by rw [zCt_1 hc hjH, hjc, hk]) (Or.inr hjH) (by omega) ls (lv_sub hl [0, 2, 1, 5, 6, 7, 8, 9] rfl)
            · refine lv_iconst (v := 1) hx hb dL_isScaleSo_197 (by decide) ?_
              refine lv_goto (tgt := 202) hx hb dL_isScaleSo_198 (by decide) ?_
              refine lv_istore (lv' := [(6, .int 1), (9, .int (nI (zD a j))), (8, .int (nI (100 * j))), (7, .int (nI k)), (5, .int (zPv b)), (4, .int (nI (zD a j0))), (3, .int (nI (100 * j0))), (2, .int (nI (zCt c 121))), (1, .int (nI a)), (0, .ref h)]) hx hb dL_isScaleSo_202 hl (by decide) rfl (fun ls hl => ?_)
              refine lv_iload hx hb dL_isScaleSo_204 (lv_at hl 2 rfl) ?_
              refine lv_istore (lv' := [(5, .int (nI (100 * j))), (6, .int 1), (9, .int (nI (zD a j))), (8, .int (nI (100 * j))), (7, .int (nI k)), (4, .int (nI (zD a j0))), (3, .int (nI (100 * j0))), (2, .int (nI (zCt c 121))), (1, .int (nI a)), (0, .ref h)]) hx hb dL_isScaleSo_206 hl (by decide) rfl (fun ls hl => ?_)
              refine lv_iinc (v := (nI (k + 1))) (lv' := [(7, .int (nI (k + 1))), (5, .int (nI (100 * j))), (6, .int 1), (9, .int (nI (zD a j))), (8, .int (nI (100 * j))), (4, .int (nI (zD a j0))), (3, .int (nI (100 * j0))), (2, .int (nI (zCt c 121))), (1, .int (nI a)), (0, .ref h)]) hx hb dL_isScaleSo_208 hl (k := 4) rfl (z_inc k 1) (by decide) rfl (fun ls hl => ?_)
              refine lv_goto (tgt := 36) hx hb dL_isScaleSo_211 (by decide) ?_
              have hl : lv_has ls 10 [(7, .int (nI (k + 1))), (5, .int (zPv (j + 1))), (6, .int (zb (j0 < j + 1))), (9, .int (nI (zD a j))), (8, .int (nI (100 * j))), (4, .int (nI (zD a j0))), (3, .int (nI (100 * j0))), (2, .int (nI (zCt c 121))), (1, .int (nI a)), (0, .ref h)] := by
                rw [show (zPv (j + 1) : Int32) = (nI (100 * j)) from (zPv_s j), show (zb (j0 < j + 1) : Int32) = 1 from (zb_1 (by have := (nI_eq (by omega) (by omega)).mp c_194; omega))]
                exact hl
              exact ih (k + 1) (j + 1) (by omega) (by rw [zCt_1 hc hjH, hjc, hk]) (Or.inr hjH) (by omega) ls (lv_sub hl [0, 2, 1, 5, 6, 7, 8, 9] rfl)
        have J148 : ∀ (ls : Array Slot), lv_has ls 10 [(9, .int (nI (zD a j))), (8, .int (nI (100 * j))), (7, .int (nI k)), (6, .int (zb (j0 < b))), (5, .int (zPv b)), (4, .int (nI (zD a j0))), (3, .int (nI (100 * j0))), (2, .int (nI (zCt c 121))), (1, .int (nI a)), (0, .ref h)] → W pr l e (headSpec wsL_isScaleSo ({ frames := 6, cells := 0, slots := 0, locals := 134 })).room s m ([.ref h, .int (nI a)] : List Value).toArray below meth cd s.heap [] 0 0 (MQ below (vp_Si (fun rv => rv = 1)) ([.ref h, .int (nI a)] : List Value).toArray s 0 0 (fun _ => False)) (F0 m 148 ls []) := by
          intro ls hl
          refine lv_iload hx hb dL_isScaleSo_148 (lv_at hl 2 rfl) ?_
          refine lv_if_le (tgt := 186) hx hb dL_isScaleSo_150 (by decide) (fun c_150 => ?_) (fun c_150 => ?_)
          · exact J186 ls (lv_sub hl [0, 1, 2, 3, 4, 5, 6, 7, 8, 9] rfl)
          · have hb0 : ¬ b = 0 := zKp hk hb1 c_150
            refine lv_aload_n hx hb dL_isScaleSo_153 rfl (lv_at hl 9 rfl) ?_
            refine lv_iload hx hb dL_isScaleSo_154 (lv_at hl 1 rfl) ?_
            refine vp_callSi ((va_runV (As := [.int (nI (100 * j))]) (rest := []) ⟨hx, hb, hml, hown, hts⟩ (c_X0_stepOf_v l D N0 cA cL E h d z c (nI (100 * j)) hc (zJ_p hj)) (cwV 1 hts gL_isScaleSo_X0_stepOf rfl rfl rfl (by decide +kernel) ⟨Nat.le_of_ble_eq_true rfl, Nat.le_of_ble_eq_true rfl⟩) ⟨zPre.blind, va_recv hK hP (ci := 0) (q0 := 0) rfl rfl, zPre.call hN hP hD hK hE hS⟩ rfl rfl hl.1 rfl (lv_room (Nat.le_of_ble_eq_true rfl)) dL_isScaleSo_156 ⟨Nat.zero_le _, Nat.zero_le _⟩).run) (fun r_156 h_156 => ?_)
            have h_156 : r_156 = (zStep c (nI (100 * j))) := h_156
            subst h_156
            refine lv_aload_n hx hb dL_isScaleSo_159 rfl (lv_at hl 9 rfl) ?_
            refine lv_iload hx hb dL_isScaleSo_160 (lv_at hl 4 rfl) ?_
            rw [show ((zPv b) : Int32) = (nI (100 * (b - 1))) from (zPv_p hb0)]
            refine vp_callSi ((va_runV (As := [.int (nI (100 * (b - 1)))]) (rest := [.int (zStep c (nI (100 * j)))]) ⟨hx, hb, hml, hown, hts⟩ (c_X0_stepOf_v l D N0 cA cL E h d z c (nI (100 * (b - 1))) hc (zJ_p (by omega))) (cwV 1 hts gL_isScaleSo_X0_stepOf rfl rfl rfl (by decide +kernel) ⟨Nat.le_of_ble_eq_true rfl, Nat.le_of_ble_eq_true rfl⟩) ⟨zPre.blind, va_recv hK hP (ci := 0) (q0 := 0) rfl rfl, zPre.call hN hP hD hK hE hS⟩ rfl rfl hl.1 rfl (lv_room (Nat.le_of_ble_eq_true rfl)) dL_isScaleSo_162 ⟨Nat.zero_le _, Nat.zero_le _⟩).run) (fun r_162 h_162 => ?_)
            have h_162 : r_162 = (zStep c (nI (100 * (b - 1)))) := h_162
            subst h_162
            refine lv_iconst (v := 1) hx hb dL_isScaleSo_165 (by decide) ?_
            refine lv_iadd hx hb dL_isScaleSo_166 ?_
            refine lv_iload_n hx hb dL_isScaleSo_167 rfl (lv_at hl 7 rfl) ?_
            refine lv_bipush (v := 100) hx hb dL_isScaleSo_168 (by decide) ?_
            refine lv_icmp_le (tgt := 178) hx hb dL_isScaleSo_170 (by decide) (fun c_170 => ?_) (fun c_170 => ?_)
            · refine lv_bipush (v := 7) hx hb dL_isScaleSo_178 (by decide) ?_
              refine lv_irem hx hb dL_isScaleSo_180 (by decide) ?_
              refine lv_icmp_eq (tgt := 186) hx hb dL_isScaleSo_181 (by decide) (fun c_181 => ?_) (fun c_181 => ?_)
              · exact J186 ls (lv_sub hl [0, 1, 2, 3, 4, 5, 6, 7, 8, 9] rfl)
              · exact absurd (by have e := zNx_s hc (b := b - 1) hj (hbH.resolve_left hb0) hjH (by rw [show b - 1 + 1 = b by omega]; rcases hjb with q | ⟨q, q2⟩; exact Or.inl q; exact Or.inr ⟨by omega, q2⟩); rw [zNn_1 hc c_170] at e; exact e) c_181
            · refine lv_bipush (v := 12) hx hb dL_isScaleSo_173 (by decide) ?_
              refine lv_goto (tgt := 180) hx hb dL_isScaleSo_175 (by decide) ?_
              refine lv_irem hx hb dL_isScaleSo_180 (by decide) ?_
              refine lv_icmp_eq (tgt := 186) hx hb dL_isScaleSo_181 (by decide) (fun c_181 => ?_) (fun c_181 => ?_)
              · exact J186 ls (lv_sub hl [0, 1, 2, 3, 4, 5, 6, 7, 8, 9] rfl)
              · exact absurd (by have e := zNx_s hc (b := b - 1) hj (hbH.resolve_left hb0) hjH (by rw [show b - 1 + 1 = b by omega]; rcases hjb with q | ⟨q, q2⟩; exact Or.inl q; exact Or.inr ⟨by omega, q2⟩); rw [zNn_2 hc c_170] at e; exact e) c_181
        have J132 : ∀ (ls : Array Slot), lv_has ls 10 [(9, .int (nI (zD a j))), (8, .int (nI (100 * j))), (7, .int (nI k)), (6, .int (zb (j0 < b))), (5, .int (zPv b)), (4, .int (nI (zD a j0))), (3, .int (nI (100 * j0))), (2, .int (nI (zCt c 121))), (1, .int (nI a)), (0, .ref h)] → W pr l e (headSpec wsL_isScaleSo ({ frames := 6, cells := 0, slots := 0, locals := 134 })).room s m ([.ref h, .int (nI a)] : List Value).toArray below meth cd s.heap [] 0 0 (MQ below (vp_Si (fun rv => rv = 1)) ([.ref h, .int (nI a)] : List Value).toArray s 0 0 (fun _ => False)) (F0 m 132 ls []) := by
          intro ls hl
          refine lv_iload hx hb dL_isScaleSo_132 (lv_at hl 2 rfl) ?_
          refine lv_if_le (tgt := 148) hx hb dL_isScaleSo_134 (by decide) (fun c_134 => ?_) (fun c_134 => ?_)
          · exact J148 ls (lv_sub hl [0, 1, 2, 3, 4, 5, 6, 7, 8, 9] rfl)
          · have hb0 : ¬ b = 0 := zKp hk hb1 c_134
            refine lv_iload hx hb dL_isScaleSo_137 (lv_at hl 1 rfl) ?_
            refine lv_iload hx hb dL_isScaleSo_139 (lv_at hl 4 rfl) ?_
            refine lv_isub hx hb dL_isScaleSo_141 ?_
            refine lv_sipush (v := 200) hx hb dL_isScaleSo_142 (by decide) ?_
            refine lv_icmp_gt (tgt := 184) hx hb dL_isScaleSo_145 (by decide) (fun c_145 => ?_) (fun c_145 => ?_)
            · exact absurd c_145 (zPv_3 hb0 hjb2.2 hjb2.1 hj)
            · exact J148 ls (lv_sub hl [0, 1, 2, 3, 4, 5, 6, 7, 8, 9] rfl)
        have J69 : ∀ (ls : Array Slot), lv_has ls 10 [(9, .int (nI (zD a j))), (8, .int (nI (100 * j))), (7, .int (nI k)), (6, .int (zb (j0 < b))), (5, .int (zPv b)), (4, .int (nI (zD a j0))), (3, .int (nI (100 * j0))), (2, .int (nI (zCt c 121))), (1, .int (nI a)), (0, .ref h)] → W pr l e (headSpec wsL_isScaleSo ({ frames := 6, cells := 0, slots := 0, locals := 134 })).room s m ([.ref h, .int (nI a)] : List Value).toArray below meth cd s.heap [] 0 0 (MQ below (vp_Si (fun rv => rv = 1)) ([.ref h, .int (nI a)] : List Value).toArray s 0 0 (fun _ => False)) (F0 m 69 ls []) := by
          intro ls hl
          refine lv_iload hx hb dL_isScaleSo_69 (lv_at hl 1 rfl) ?_
          refine lv_iload hx hb dL_isScaleSo_71 (lv_at hl 4 rfl) ?_
          refine lv_icmp_le (tgt := 184) hx hb dL_isScaleSo_73 (by decide) (fun c_73 => ?_) (fun c_73 => ?_)
          · exact absurd c_73 (zPv_1 hjb2.1 hj)
          · refine lv_iload hx hb dL_isScaleSo_76 (lv_at hl 1 rfl) ?_
            refine lv_sipush (v := 12000) hx hb dL_isScaleSo_78 (by decide) ?_
            refine lv_icmp_gt (tgt := 184) hx hb dL_isScaleSo_81 (by decide) (fun c_81 => ?_) (fun c_81 => ?_)
            · exact absurd (zJ_p hj).2 (Int32.not_le.mpr c_81)
            · refine lv_iload hx hb dL_isScaleSo_84 (lv_at hl 1 rfl) ?_
              refine lv_bipush (v := 100) hx hb dL_isScaleSo_86 (by decide) ?_
              refine lv_irem hx hb dL_isScaleSo_88 (by decide) ?_
              rw [show (((nI (100 * j)) - (nI (100 * j)) / 100 * 100) : Int32) = 0 from (zJ_rem j hj)]
              refine lv_if_ne (tgt := 184) hx hb dL_isScaleSo_89 (by decide) (fun c_89 => absurd c_89 (by decide)) (fun _ => ?_)
              refine lv_aload_n hx hb dL_isScaleSo_92 rfl (lv_at hl 9 rfl) ?_
              refine lv_iload hx hb dL_isScaleSo_93 (lv_at hl 1 rfl) ?_
              refine vp_callSi ((va_runV (As := [.int (nI (100 * j))]) (rest := []) ⟨hx, hb, hml, hown, hts⟩ (c_X0_stepOf_v l D N0 cA cL E h d z c (nI (100 * j)) hc (zJ_p hj)) (cwV 1 hts gL_isScaleSo_X0_stepOf rfl rfl rfl (by decide +kernel) ⟨Nat.le_of_ble_eq_true rfl, Nat.le_of_ble_eq_true rfl⟩) ⟨zPre.blind, va_recv hK hP (ci := 0) (q0 := 0) rfl rfl, zPre.call hN hP hD hK hE hS⟩ rfl rfl hl.1 rfl (lv_room (Nat.le_of_ble_eq_true rfl)) dL_isScaleSo_95 ⟨Nat.zero_le _, Nat.zero_le _⟩).run) (fun r_95 h_95 => ?_)
              have h_95 : r_95 = (zStep c (nI (100 * j))) := h_95
              subst h_95
              refine lv_if_lt (tgt := 184) hx hb dL_isScaleSo_98 (by decide) (fun c_98 => ?_) (fun c_98 => ?_)
              · exact absurd ((zStep_neg hc _).mp c_98) hjH
              · refine lv_aload_n hx hb dL_isScaleSo_101 rfl (lv_at hl 9 rfl) ?_
                refine lv_iload hx hb dL_isScaleSo_102 (lv_at hl 1 rfl) ?_
                refine vp_callSi ((va_runV (As := [.int (nI (100 * j))]) (rest := []) ⟨hx, hb, hml, hown, hts⟩ (c_X0_nearest_v l D N0 cA cL E h d z c (nI (100 * j)) hc (zJ_p hj)) (cwV 1 hts gL_isScaleSo_X0_nearest rfl rfl rfl (by decide +kernel) ⟨Nat.le_of_ble_eq_true rfl, Nat.le_of_ble_eq_true rfl⟩) ⟨zPre.blind, va_recv hK hP (ci := 0) (q0 := 0) rfl rfl, zPre.call hN hP hD hK hE hS⟩ rfl rfl hl.1 rfl (lv_room (Nat.le_of_ble_eq_true rfl)) dL_isScaleSo_104 ⟨Nat.zero_le _, Nat.zero_le _⟩).run) (fun r_104 h_104 => ?_)
                have h_104 : r_104 = (zNear c (nI (100 * j))) := h_104
                subst h_104
                rw [show ((zNear c (nI (100 * j))) : Int32) = (nI (100 * j)) from (zNear_r hc hj hjH)]
                refine lv_iload hx hb dL_isScaleSo_107 (lv_at hl 1 rfl) ?_
                refine lv_icmp_ne (tgt := 184) hx hb dL_isScaleSo_109 (by decide) (fun c_109 => ?_) (fun c_109 => ?_)
                · exact absurd rfl c_109
                · refine lv_iload hx hb dL_isScaleSo_112 (lv_at hl 0 rfl) ?_
                  refine lv_iload hx hb dL_isScaleSo_114 (lv_at hl 5 rfl) ?_
                  refine lv_icmp_lt (tgt := 184) hx hb dL_isScaleSo_116 (by decide) (fun c_116 => ?_) (fun c_116 => ?_)
                  · exact absurd c_116 (nI_nlt (by omega) (by omega))
                  · refine lv_iload hx hb dL_isScaleSo_119 (lv_at hl 0 rfl) ?_
                    refine lv_iload hx hb dL_isScaleSo_121 (lv_at hl 5 rfl) ?_
                    refine lv_icmp_ne (tgt := 132) hx hb dL_isScaleSo_123 (by decide) (fun c_123 => ?_) (fun c_123 => ?_)
                    · exact J132 ls (lv_sub hl [0, 1, 2, 3, 4, 5, 6, 7, 8, 9] rfl)
                    · refine lv_iload hx hb dL_isScaleSo_126 (lv_at hl 1 rfl) ?_
                      refine lv_iload_n hx hb dL_isScaleSo_128 rfl (lv_at hl 6 rfl) ?_
                      refine lv_icmp_lt (tgt := 184) hx hb dL_isScaleSo_129 (by decide) (fun c_129 => ?_) (fun c_129 => ?_)
                      · exact absurd ((nI_ltI (by omega) (by omega)).mp c_129) (fun q => by have h2 := (nI_eq (by omega) (by omega)).mp c_123; omega)
                      · exact J132 ls (lv_sub hl [0, 1, 2, 3, 4, 5, 6, 7, 8, 9] rfl)
        refine lv_aload_n hx hb dL_isScaleSo_42 rfl (lv_at hl 7 rfl) ?_
        refine lv_iload hx hb dL_isScaleSo_43 (lv_at hl 0 rfl) ?_
        refine vp_callSi ((va_runV (As := [.int (nI k)]) (rest := []) ⟨hx, hb, hml, hown, hts⟩ (c_X0_rung_v l D N0 cA cL E h d z c (nI k) hc (by rw [hrg]; exact nI_pos (by omega))) (cwV 1 hts gL_isScaleSo_X0_rung rfl rfl rfl (by decide +kernel) ⟨Nat.le_of_ble_eq_true rfl, Nat.le_of_ble_eq_true rfl⟩) ⟨zPre.blind, va_recv hK hP (ci := 0) (q0 := 0) rfl rfl, zPre.call hN hP hD hK hE hS⟩ rfl rfl hl.1 rfl (lv_room (Nat.le_of_ble_eq_true rfl)) dL_isScaleSo_45 ⟨Nat.zero_le _, Nat.zero_le _⟩).run) (fun r_45 h_45 => ?_)
        have h_45 : r_45 = (zRg c (nI k)) := h_45
        subst h_45
        rw [show ((zRg c (nI k)) : Int32) = (nI (100 * j)) from hrg]
        refine lv_istore (lv' := [(8, .int (nI (100 * j))), (7, .int (nI k)), (6, .int (zb (j0 < b))), (5, .int (zPv b)), (4, .int (nI (zD a j0))), (3, .int (nI (100 * j0))), (2, .int (nI (zCt c 121))), (1, .int (nI a)), (0, .ref h)]) hx hb dL_isScaleSo_48 hl (by decide) rfl (fun ls hl => ?_)
        refine lv_iload hx hb dL_isScaleSo_50 (lv_at hl 0 rfl) ?_
        refine lv_iload_n hx hb dL_isScaleSo_52 rfl (lv_at hl 7 rfl) ?_
        refine lv_icmp_le (tgt := 63) hx hb dL_isScaleSo_53 (by decide) (fun c_53 => ?_) (fun c_53 => ?_)
        · refine lv_iload_n hx hb dL_isScaleSo_63 rfl (lv_at hl 7 rfl) ?_
          refine lv_iload hx hb dL_isScaleSo_64 (lv_at hl 0 rfl) ?_
          refine lv_isub hx hb dL_isScaleSo_66 ?_
          rw [show (((nI a) - (nI (100 * j))) : Int32) = (nI (zD a j)) from (zDist_2 ha hj c_53)]
          refine lv_istore (lv' := [(9, .int (nI (zD a j))), (8, .int (nI (100 * j))), (7, .int (nI k)), (6, .int (zb (j0 < b))), (5, .int (zPv b)), (4, .int (nI (zD a j0))), (3, .int (nI (100 * j0))), (2, .int (nI (zCt c 121))), (1, .int (nI a)), (0, .ref h)]) hx hb dL_isScaleSo_67 hl (by decide) rfl (fun ls hl => ?_)
          exact J69 ls (lv_sub hl [0, 1, 2, 3, 4, 5, 6, 7, 8, 9] rfl)
        · refine lv_iload hx hb dL_isScaleSo_56 (lv_at hl 0 rfl) ?_
          refine lv_iload_n hx hb dL_isScaleSo_58 rfl (lv_at hl 7 rfl) ?_
          refine lv_isub hx hb dL_isScaleSo_59 ?_
          rw [show (((nI (100 * j)) - (nI a)) : Int32) = (nI (zD a j)) from (zDist_1 ha hj c_53)]
          refine lv_goto (tgt := 67) hx hb dL_isScaleSo_60 (by decide) ?_
          refine lv_istore (lv' := [(9, .int (nI (zD a j))), (8, .int (nI (100 * j))), (7, .int (nI k)), (6, .int (zb (j0 < b))), (5, .int (zPv b)), (4, .int (nI (zD a j0))), (3, .int (nI (100 * j0))), (2, .int (nI (zCt c 121))), (1, .int (nI a)), (0, .ref h)]) hx hb dL_isScaleSo_67 hl (by decide) rfl (fun ls hl => ?_)
          exact J69 ls (lv_sub hl [0, 1, 2, 3, 4, 5, 6, 7, 8, 9] rfl)
  refine lv_aload_n hx hb dL_isScaleSo_0 rfl (lv_at hl 0 rfl) ?_
  refine vp_callSi ((va_runV (As := []) (rest := []) ⟨hx, hb, hml, hown, hts⟩ (c_X0_rungs l D N0 cA cL E h d z c hc) (cwV 0 hts gL_isScaleSo_X0_rungs rfl rfl rfl (by decide +kernel) ⟨Nat.le_of_ble_eq_true rfl, Nat.le_of_ble_eq_true rfl⟩) ⟨zPre.blind, va_recv hK hP (ci := 0) (q0 := 0) rfl rfl, zPre.call hN hP hD hK hE hS⟩ rfl rfl hl.1 rfl (lv_room (Nat.le_of_ble_eq_true rfl)) dL_isScaleSo_1 ⟨Nat.zero_le _, Nat.zero_le _⟩).run) (fun r_1 h_1 => ?_)
  have h_1 : r_1 = (zRc c) := h_1
  subst h_1
  rw [show ((zRc c) : Int32) = (nI (zCt c 121)) from (zRc_n c)]
  refine lv_istore_n (lv' := [(2, .int (nI (zCt c 121))), (0, .ref h), (1, .int (nI a))]) hx hb dL_isScaleSo_4 rfl hl (by decide) rfl (fun ls hl => ?_)
  refine lv_aload_n hx hb dL_isScaleSo_5 rfl (lv_at hl 1 rfl) ?_
  refine lv_iload_n hx hb dL_isScaleSo_6 rfl (lv_at hl 2 rfl) ?_
  refine vp_callSi ((va_runV (As := [.int (nI a)]) (rest := []) ⟨hx, hb, hml, hown, hts⟩ (c_X0_nearest_v l D N0 cA cL E h d z c (nI a) hc hp) (cwV 1 hts gL_isScaleSo_X0_nearest rfl rfl rfl (by decide +kernel) ⟨Nat.le_of_ble_eq_true rfl, Nat.le_of_ble_eq_true rfl⟩) ⟨zPre.blind, va_recv hK hP (ci := 0) (q0 := 0) rfl rfl, zPre.call hN hP hD hK hE hS⟩ rfl rfl hl.1 rfl (lv_room (Nat.le_of_ble_eq_true rfl)) dL_isScaleSo_7 ⟨Nat.zero_le _, Nat.zero_le _⟩).run) (fun r_7 h_7 => ?_)
  have h_7 : r_7 = (zNear c (nI a)) := h_7
  subst h_7
  rw [show ((zNear c (nI a)) : Int32) = (nI (100 * j0)) from eN]
  refine lv_istore_n (lv' := [(3, .int (nI (100 * j0))), (2, .int (nI (zCt c 121))), (0, .ref h), (1, .int (nI a))]) hx hb dL_isScaleSo_10 rfl hl (by decide) rfl (fun ls hl => ?_)
  refine lv_iload_n hx hb dL_isScaleSo_11 rfl (lv_at hl 0 rfl) ?_
  refine lv_iload_n hx hb dL_isScaleSo_12 rfl (lv_at hl 3 rfl) ?_
  refine lv_icmp_le (tgt := 22) hx hb dL_isScaleSo_13 (by decide) (fun c_13 => ?_) (fun c_13 => ?_)
  · refine lv_iload_n hx hb dL_isScaleSo_22 rfl (lv_at hl 3 rfl) ?_
    refine lv_iload_n hx hb dL_isScaleSo_23 rfl (lv_at hl 0 rfl) ?_
    refine lv_isub hx hb dL_isScaleSo_24 ?_
    rw [show (((nI a) - (nI (100 * j0))) : Int32) = (nI (zD a j0)) from (zDist_2 ha hj0 c_13)]
    refine lv_istore (lv' := [(4, .int (nI (zD a j0))), (3, .int (nI (100 * j0))), (2, .int (nI (zCt c 121))), (0, .ref h), (1, .int (nI a))]) hx hb dL_isScaleSo_25 hl (by decide) rfl (fun ls hl => ?_)
    refine lv_iconst (v := (-1)) hx hb dL_isScaleSo_27 (by decide) ?_
    refine lv_istore (lv' := [(5, .int (-1)), (4, .int (nI (zD a j0))), (3, .int (nI (100 * j0))), (2, .int (nI (zCt c 121))), (0, .ref h), (1, .int (nI a))]) hx hb dL_isScaleSo_28 hl (by decide) rfl (fun ls hl => ?_)
    refine lv_iconst (v := 0) hx hb dL_isScaleSo_30 (by decide) ?_
    refine lv_istore (lv' := [(6, .int 0), (5, .int (-1)), (4, .int (nI (zD a j0))), (3, .int (nI (100 * j0))), (2, .int (nI (zCt c 121))), (0, .ref h), (1, .int (nI a))]) hx hb dL_isScaleSo_31 hl (by decide) rfl (fun ls hl => ?_)
    refine lv_iconst (v := 0) hx hb dL_isScaleSo_33 (by decide) ?_
    refine lv_istore (lv' := [(7, .int 0), (6, .int 0), (5, .int (-1)), (4, .int (nI (zD a j0))), (3, .int (nI (100 * j0))), (2, .int (nI (zCt c 121))), (0, .ref h), (1, .int (nI a))]) hx hb dL_isScaleSo_34 hl (by decide) rfl (fun ls hl => ?_)
    exact loop 122 0 0 (by decide) rfl (Or.inl rfl) (by decide) ls (by rw [show zPv 0 = -1 from rfl, show zb (j0 < 0) = 0 from zb_0 (Nat.not_lt_zero _)]; exact lv_sub hl [0, 1, 2, 3, 4, 5, 7, 6] rfl)
  · refine lv_iload_n hx hb dL_isScaleSo_16 rfl (lv_at hl 0 rfl) ?_
    refine lv_iload_n hx hb dL_isScaleSo_17 rfl (lv_at hl 3 rfl) ?_
    refine lv_isub hx hb dL_isScaleSo_18 ?_
    rw [show (((nI (100 * j0)) - (nI a)) : Int32) = (nI (zD a j0)) from (zDist_1 ha hj0 c_13)]
    refine lv_goto (tgt := 25) hx hb dL_isScaleSo_19 (by decide) ?_
    refine lv_istore (lv' := [(4, .int (nI (zD a j0))), (3, .int (nI (100 * j0))), (2, .int (nI (zCt c 121))), (0, .ref h), (1, .int (nI a))]) hx hb dL_isScaleSo_25 hl (by decide) rfl (fun ls hl => ?_)
    refine lv_iconst (v := (-1)) hx hb dL_isScaleSo_27 (by decide) ?_
    refine lv_istore (lv' := [(5, .int (-1)), (4, .int (nI (zD a j0))), (3, .int (nI (100 * j0))), (2, .int (nI (zCt c 121))), (0, .ref h), (1, .int (nI a))]) hx hb dL_isScaleSo_28 hl (by decide) rfl (fun ls hl => ?_)
    refine lv_iconst (v := 0) hx hb dL_isScaleSo_30 (by decide) ?_
    refine lv_istore (lv' := [(6, .int 0), (5, .int (-1)), (4, .int (nI (zD a j0))), (3, .int (nI (100 * j0))), (2, .int (nI (zCt c 121))), (0, .ref h), (1, .int (nI a))]) hx hb dL_isScaleSo_31 hl (by decide) rfl (fun ls hl => ?_)
    refine lv_iconst (v := 0) hx hb dL_isScaleSo_33 (by decide) ?_
    refine lv_istore (lv' := [(7, .int 0), (6, .int 0), (5, .int (-1)), (4, .int (nI (zD a j0))), (3, .int (nI (100 * j0))), (2, .int (nI (zCt c 121))), (0, .ref h), (1, .int (nI a))]) hx hb dL_isScaleSo_34 hl (by decide) rfl (fun ls hl => ?_)
    exact loop 122 0 0 (by decide) rfl (Or.inl rfl) (by decide) ls (by rw [show zPv 0 = -1 from rfl, show zb (j0 < 0) = 0 from zb_0 (Nat.not_lt_zero _)]; exact lv_sub hl [0, 1, 2, 3, 4, 5, 7, 6] rfl)
