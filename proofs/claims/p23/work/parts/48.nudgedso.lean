theorem zDueC {B : Nat} {z : S7} {c : C5} (hI : zInv B z c) {i : Nat} (hi : i < 4) {p : Int32} (hp : zp p) : (zFR c i p z = 1 ↔ zGap p (zR c i p z) (zG c i p z) = 0) ∧ ∀ q, q < 38 → (¬ zFR c i p z < 0 → (zGap p (zR c i p z) (zIt c.2.2.1 (zR c i p z - p) (q + 1) (zG c i p z)) = 0 ↔ ¬ nI (q + 2) < zFR c i p z)) ∧ (¬ 0 < zFR c i p z → ¬ zGap p (zR c i p z) (zIt c.2.2.1 (zR c i p z - p) (q + 1) (zG c i p z)) ≤ 0) := by
  have hr := zR_p hI hi hp
  have hn := zG_r hI hi hp
  have hs0 := hI.1.2.2.1
  have hs := hI.1.2.2.2
  have hit := zIt_r hs0 hs hn (zDue_i hr hp).2
  have g0 := zGap_0 hp hr hn
  have hdef : zFR c i p z = zFf c.2.2.1 p (zR c i p z) 999 1 (zG c i p z) := rfl
  rcases zFf_c c.2.2.1 p (zR c i p z) 999 1 (zG c i p z) with ⟨h1, h2⟩ | ⟨j, h1, h2, h3, h4⟩
  · rw [hdef, h1]
    refine ⟨⟨fun q => absurd q (by decide), fun q => absurd (g0.mp q) (h2 0 (by decide))⟩, fun q hq => ⟨fun x => absurd (by decide) x, fun _ x => ?_⟩⟩
    have gp := zGap_p hp hr (hit (q + 1))
    exact h2 (q + 1) (by omega) ((zGap_0 hp hr (hit (q + 1))).mp (Int32.le_antisymm x gp))
  · rw [hdef, h2]
    refine ⟨?_, fun q hq => ⟨fun _ => ?_, fun x => absurd (nI_lt (a := 0) (b := 1 + j) (by omega) (by omega)) x⟩⟩
    · rw [g0]
      constructor
      · intro x
        have e : 1 + j = 1 := (nI_eq (b := 1) (by omega) (by decide)).mp x
        have e0 : j = 0 := by omega
        subst e0
        exact h3
      · intro x
        have e0 : j = 0 := by
          rcases Nat.eq_zero_or_pos j with e | e
          · exact e
          · exact absurd x (h4 0 e)
        subst e0
        rfl
    · rw [zGap_0 hp hr (hit (q + 1))]
      constructor
      · intro x y
        have e : q + 2 < 1 + j := (nI_ltI (by omega) (by omega)).mp y
        exact h4 (q + 1) (by omega) x
      · intro y
        have e : ¬ q + 2 < 1 + j := fun e => y (nI_lt e (by omega))
        have := zIt_st hs0 hs hp hr hn h3 (q + 1 - j)
        rw [show j + (q + 1 - j) = q + 1 by omega] at this
        exact this
set_option maxHeartbeats 4000000 in
set_option maxRecDepth 100000 in
theorem c_L_isNudgedSo (l : Launch) (D : va_G) (N0 : Nat) (cA cL : ClassId) (E : va_W) (h : Nat) (d : Nat → Nat) (z : S7) (c : C5) (w p : Int32) (hw : zw w) (hp : zp p) {B : Nat} (hI : zInv B z c) : Met l yL_isNudgedSo wsL_isNudgedSo ({ frames := 8, cells := 0, slots := 0, locals := 183 }) (va_Pc [.ref h, .int w, .int p] (zPre D N0 cA cL (wX h d cA z c ++ E))) (va_Qi (fun (rv : Int32) (_ : Unit) => rv = 1) (fun _ t => zPost D N0 (wX h d cA ((zNg c w.toNatClampNeg p z 39)) c ++ E) t) (zA N0)) 0 0 (zA N0) := by
  refine Met.ofW (cc := cL_isNudgedSo) (maxL := 11) (ret := (some .boolean)) (by decide) rfl ?_
  intro pr e s m ag below meth cd s₁ B hml hv
  obtain ⟨rfl, hN, hP, hD, hK, hE⟩ := hv
  have hx := B.exec
  have hb := B.bytes
  have hr := B.returns
  have hts := atoms_spec (ws := wsL_isNudgedSo) B.pre
  have hown : s.vm.findClass RL = some m.cls := findClass_of_methodNamed B.named
  have hlocks := B.notSynchronized
  have hS : va_S (zA N0) s.heap s.heap [] := va_S.rf
  have hl := lv_entry ([.ref h, .int w, .int p]) (n := 11) (Nat.le_of_ble_eq_true rfl)
  rw [lg_entry_eq]
  generalize (lg_sl ([.ref h, .int w, .int p]) ++ List.replicate (11 - (lg_sl ([.ref h, .int w, .int p])).length) Slot.unset).toArray = ls at hl ⊢
  have hl : lv_has ls 11 [(0, .ref h), (1, .int w), (2, .int p)] := hl
  have hc := hI.okC
  have hi := zw_i hw
  have hs0 := hI.1.2.2.1
  have hs := hI.1.2.2.2
  have hr9 := zR_p hI hi hp
  have hn9 := zG_r hI hi hp
  obtain ⟨hdue1, hdue2⟩ := zDueC hI hi hp
  generalize hdue : zFR c w.toNatClampNeg p z = due at hdue1 hdue2
  generalize hr0 : zR c w.toNatClampNeg p z = r at hr9 hdue1 hdue2
  generalize hn0 : zG c w.toNatClampNeg p z = n1 at hn9 hdue1 hdue2
  have hit := zIt_r hs0 hs hn9 (zDue_i hr9 hp).2
  have loop : ∀ (n : Nat) (q : Nat), q ≤ 38 → 39 ≤ q + n → ∀ (H : Heap) (locs : List Loc), va_P D vwCl (wX h d cA ((zNg c w.toNatClampNeg p z (q + 1))) c ++ E) H → va_D (zA N0) (wX h d cA ((zNg c w.toNatClampNeg p z (q + 1))) c ++ E) → va_S (zA N0) s.heap H locs → ∀ (ls : Array Slot), lv_has ls 11 [(8, .int (nI (q + 2))), (7, .int 1), (6, .int (zGap p r (zIt c.2.2.1 (r - p) q n1))), (5, .int r), (3, .int due), (2, .int p), (1, .int w), (0, .ref h)] → W pr l e (headSpec wsL_isNudgedSo ({ frames := 8, cells := 0, slots := 0, locals := 183 })).room s m ([.ref h, .int w, .int p] : List Value).toArray below meth cd H locs 0 0 (MQ below (va_Qi (fun (rv : Int32) (_ : Unit) => rv = 1) (fun _ t => zPost D N0 (wX h d cA ((zNg c w.toNatClampNeg p z 39)) c ++ E) t) (zA N0)) ([.ref h, .int w, .int p] : List Value).toArray s 0 0 (zA N0)) (F0 m 94 ls []) := by
    intro n
    induction n with
    | zero =>
      intro q hq hn
      omega
    | succ n ih =>
      intro q hq hn H locs hP hD hS ls hl
      refine lv_iload hx hb dL_isNudgedSo_94 (lv_at hl 0 rfl) ?_
      refine lv_bipush (v := 40) hx hb dL_isNudgedSo_96 (by decide) ?_
      refine lv_icmp_ge (tgt := 219) hx hb dL_isNudgedSo_98 (by decide) (fun c_98 => ?_) (fun c_98 => ?_)
      · have hq4 : q = 38 := by
          have h1 := (nI_leI (a := 40) (by decide) (by omega)).mp c_98
          omega
        subst hq4
        refine lv_iload hx hb dL_isNudgedSo_219 (lv_at hl 1 rfl) ?_
        exact W.zret (v := 1) hx hb hr rfl (fun t ht hW => ⟨⟨_, (), rfl, rfl, ⟨by rw [ht]; exact hP, hD⟩⟩, hS.F ht⟩) hS.2.2 dL_isNudgedSo_221
      · have hq4 : q < 38 := by
          have h1 : ¬ 40 ≤ q + 2 := fun x => c_98 ((nI_leI (a := 40) (by decide) (by omega)).mpr x)
          omega
        obtain ⟨hd2, hd3⟩ := hdue2 q hq4
        have hng := zNg_rg c w.toNatClampNeg p z (q + 1)
        rw [hr0, hn0] at hng
        refine lv_iload hx hb dL_isNudgedSo_101 (lv_at hl 1 rfl) ?_
        refine lv_if_eq (tgt := 219) hx hb dL_isNudgedSo_103 (by decide) (fun c_103 => absurd c_103 (by decide)) (fun _ => ?_)
        refine lv_aload_n hx hb dL_isNudgedSo_106 rfl (lv_at hl 7 rfl) ?_
        refine lv_iload_n hx hb dL_isNudgedSo_107 rfl (lv_at hl 6 rfl) ?_
        refine lv_iload_n hx hb dL_isNudgedSo_108 rfl (lv_at hl 5 rfl) ?_
        refine va_calli (va_runV (As := [.int w, .int p]) (rest := []) ⟨hx, hb, hml, hown, hts⟩ (c_X0_sing_v l D N0 cA cL E h d ((zNg c w.toNatClampNeg p z (q + 1))) c w p hc hw hp) (cwV 2 hts gL_isNudgedSo_X0_sing rfl rfl rfl (by decide +kernel) ⟨Nat.le_of_ble_eq_true rfl, Nat.le_of_ble_eq_true rfl⟩) ⟨zPre.blind, va_recv hK hP (ci := 0) (q0 := 0) rfl rfl, zPre.call hN hP hD hK hE hS⟩ rfl rfl hl.1 rfl (lv_room (Nat.le_of_ble_eq_true rfl)) dL_isNudgedSo_109 ⟨Nat.zero_le _, Nat.zero_le _⟩) hS (fun _ _ h9 => h9) (fun _ h9 => h9) (fun r_109 _ t H locs ht hvm h_109 hB hz1 hk1 hS => ?_)
        have h_109 : r_109 = (zOut c w.toNatClampNeg p ((zNg c w.toNatClampNeg p z (q + 1)))) := h_109
        subst h_109
        obtain ⟨hP, hD⟩ := hB
        rw [ht] at hP
        have hP : va_P D vwCl (wX h d cA (zSg c w.toNatClampNeg p ((zNg c w.toNatClampNeg p z (q + 1)))) c ++ E) H := hP
        have hD : va_D (zA N0) (wX h d cA (zSg c w.toNatClampNeg p ((zNg c w.toNatClampNeg p z (q + 1)))) c ++ E) := hD
        have hP : va_P D vwCl (wX h d cA ((zNg c w.toNatClampNeg p z (q + 2))) c ++ E) H := hP
        have hD : va_D (zA N0) (wX h d cA ((zNg c w.toNatClampNeg p z (q + 2))) c ++ E) := hD
        rw [show zOut c w.toNatClampNeg p (zNg c w.toNatClampNeg p z (q + 1)) = (p + (zIt c.2.2.1 (r - p) (q + 1) n1)) from (by show p + zG c w.toNatClampNeg p (zNg c w.toNatClampNeg p z (q + 1)) = _; rw [hng.2])]
        have J202 : ∀ (ls : Array Slot), lv_has ls 11 [(10, .int (zGap p r (zIt c.2.2.1 (r - p) (q + 1) n1))), (9, .int (p + (zIt c.2.2.1 (r - p) (q + 1) n1))), (8, .int (nI (q + 2))), (7, .int 1), (6, .int (zGap p r (zIt c.2.2.1 (r - p) q n1))), (5, .int r), (3, .int due), (2, .int p), (1, .int w), (0, .ref h)] → W pr l e (headSpec wsL_isNudgedSo ({ frames := 8, cells := 0, slots := 0, locals := 183 })).room s m ([.ref h, .int w, .int p] : List Value).toArray below meth cd H locs 0 0 (MQ below (va_Qi (fun (rv : Int32) (_ : Unit) => rv = 1) (fun _ t => zPost D N0 (wX h d cA ((zNg c w.toNatClampNeg p z 39)) c ++ E) t) (zA N0)) ([.ref h, .int w, .int p] : List Value).toArray s 0 0 (zA N0)) (F0 m 202 ls []) := by
          intro ls hl
          refine lv_iconst (v := 1) hx hb dL_isNudgedSo_202 (by decide) ?_
          refine lv_goto (tgt := 207) hx hb dL_isNudgedSo_203 (by decide) ?_
          refine lv_istore (lv' := [(7, .int 1), (10, .int (zGap p r (zIt c.2.2.1 (r - p) (q + 1) n1))), (9, .int (p + (zIt c.2.2.1 (r - p) (q + 1) n1))), (8, .int (nI (q + 2))), (6, .int (zGap p r (zIt c.2.2.1 (r - p) q n1))), (5, .int r), (3, .int due), (2, .int p), (1, .int w), (0, .ref h)]) hx hb dL_isNudgedSo_207 hl (by decide) rfl (fun ls hl => ?_)
          refine lv_iload hx hb dL_isNudgedSo_209 (lv_at hl 1 rfl) ?_
          refine lv_istore (lv' := [(6, .int (zGap p r (zIt c.2.2.1 (r - p) (q + 1) n1))), (7, .int 1), (10, .int (zGap p r (zIt c.2.2.1 (r - p) (q + 1) n1))), (9, .int (p + (zIt c.2.2.1 (r - p) (q + 1) n1))), (8, .int (nI (q + 2))), (5, .int r), (3, .int due), (2, .int p), (1, .int w), (0, .ref h)]) hx hb dL_isNudgedSo_211 hl (by decide) rfl (fun ls hl => ?_)
          refine lv_iinc (v := (nI (q + 1 + 2))) (lv' := [(8, .int (nI (q + 1 + 2))), (6, .int (zGap p r (zIt c.2.2.1 (r - p) (q + 1) n1))), (7, .int 1), (10, .int (zGap p r (zIt c.2.2.1 (r - p) (q + 1) n1))), (9, .int (p + (zIt c.2.2.1 (r - p) (q + 1) n1))), (5, .int r), (3, .int due), (2, .int p), (1, .int w), (0, .ref h)]) hx hb dL_isNudgedSo_213 hl (k := 4) rfl ((z_inc (q + 2) 1).trans (congrArg nI (by omega))) (by decide) rfl (fun ls hl => ?_)
          refine lv_goto (tgt := 94) hx hb dL_isNudgedSo_216 (by decide) ?_
          exact ih (q + 1) (by omega) (by omega) _ _ hP hD hS ls (lv_sub hl [0, 2, 1, 5, 6, 7, 8, 9] rfl)
        have J193 : ∀ (ls : Array Slot), lv_has ls 11 [(10, .int (zGap p r (zIt c.2.2.1 (r - p) (q + 1) n1))), (9, .int (p + (zIt c.2.2.1 (r - p) (q + 1) n1))), (8, .int (nI (q + 2))), (7, .int 1), (6, .int (zGap p r (zIt c.2.2.1 (r - p) q n1))), (5, .int r), (3, .int due), (2, .int p), (1, .int w), (0, .ref h)] → W pr l e (headSpec wsL_isNudgedSo ({ frames := 8, cells := 0, slots := 0, locals := 183 })).room s m ([.ref h, .int w, .int p] : List Value).toArray below meth cd H locs 0 0 (MQ below (va_Qi (fun (rv : Int32) (_ : Unit) => rv = 1) (fun _ t => zPost D N0 (wX h d cA ((zNg c w.toNatClampNeg p z 39)) c ++ E) t) (zA N0)) ([.ref h, .int w, .int p] : List Value).toArray s 0 0 (zA N0)) (F0 m 193 ls []) := by
          intro ls hl
          refine lv_iload_n hx hb dL_isNudgedSo_193 rfl (lv_at hl 6 rfl) ?_
          refine lv_if_gt (tgt := 202) hx hb dL_isNudgedSo_194 (by decide) (fun c_194 => ?_) (fun c_194 => ?_)
          · exact J202 ls (lv_sub hl [0, 1, 2, 3, 4, 5, 6, 7, 8, 9] rfl)
          · refine lv_iload hx hb dL_isNudgedSo_197 (lv_at hl 0 rfl) ?_
            refine lv_if_le (tgt := 206) hx hb dL_isNudgedSo_199 (by decide) (fun c_199 => ?_) (fun c_199 => ?_)
            · exact absurd c_199 (hd3 c_194)
            · exact J202 ls (lv_sub hl [0, 1, 2, 3, 4, 5, 6, 7, 8, 9] rfl)
        have J136 : ∀ (ls : Array Slot), lv_has ls 11 [(10, .int (zGap p r (zIt c.2.2.1 (r - p) (q + 1) n1))), (9, .int (p + (zIt c.2.2.1 (r - p) (q + 1) n1))), (8, .int (nI (q + 2))), (7, .int 1), (6, .int (zGap p r (zIt c.2.2.1 (r - p) q n1))), (5, .int r), (3, .int due), (2, .int p), (1, .int w), (0, .ref h)] → W pr l e (headSpec wsL_isNudgedSo ({ frames := 8, cells := 0, slots := 0, locals := 183 })).room s m ([.ref h, .int w, .int p] : List Value).toArray below meth cd H locs 0 0 (MQ below (va_Qi (fun (rv : Int32) (_ : Unit) => rv = 1) (fun _ t => zPost D N0 (wX h d cA ((zNg c w.toNatClampNeg p z 39)) c ++ E) t) (zA N0)) ([.ref h, .int w, .int p] : List Value).toArray s 0 0 (zA N0)) (F0 m 136 ls []) := by
          intro ls hl
          refine lv_aload_n hx hb dL_isNudgedSo_136 rfl (lv_at hl 9 rfl) ?_
          refine lv_iload_n hx hb dL_isNudgedSo_137 rfl (lv_at hl 8 rfl) ?_
          refine vp_callSi ((va_runV (As := [.int w]) (rest := []) ⟨hx, hb, hml, hown, hts⟩ (c_X0_rungOf_v l D N0 cA cL E h d ((zNg c w.toNatClampNeg p z (q + 2))) c w hw) (cwV 1 hts gL_isNudgedSo_X0_rungOf rfl rfl rfl (by decide +kernel) ⟨Nat.le_of_ble_eq_true rfl, Nat.le_of_ble_eq_true rfl⟩) ⟨zPre.blind, va_recv hK hP (ci := 0) (q0 := 0) rfl rfl, zPre.call hN hP hD hK hE hS⟩ rfl rfl hl.1 rfl (lv_room (Nat.le_of_ble_eq_true rfl)) dL_isNudgedSo_138 ⟨Nat.zero_le _, Nat.zero_le _⟩).run) (fun r_138 h_138 => ?_)
          have h_138 : r_138 = (((zNg c w.toNatClampNeg p z (q + 2))).1 w.toNatClampNeg) := h_138
          subst h_138
          rw [show ((((zNg c w.toNatClampNeg p z (q + 2))).1 w.toNatClampNeg) : Int32) = r from ((zSg_1 c w.toNatClampNeg p (zNg c w.toNatClampNeg p z (q + 1))).trans hng.1)]
          refine lv_iload hx hb dL_isNudgedSo_141 (lv_at hl 5 rfl) ?_
          refine lv_icmp_ne (tgt := 206) hx hb dL_isNudgedSo_143 (by decide) (fun c_143 => ?_) (fun c_143 => ?_)
          · exact absurd rfl c_143
          · refine lv_iload hx hb dL_isNudgedSo_146 (lv_at hl 1 rfl) ?_
            refine lv_iload_n hx hb dL_isNudgedSo_148 rfl (lv_at hl 7 rfl) ?_
            refine lv_aload_n hx hb dL_isNudgedSo_149 rfl (lv_at hl 9 rfl) ?_
            refine lv_iload_n hx hb dL_isNudgedSo_150 rfl (lv_at hl 8 rfl) ?_
            refine vp_callSi ((va_runV (As := [.int w]) (rest := [.int p, .int (p + (zIt c.2.2.1 (r - p) (q + 1) n1))]) ⟨hx, hb, hml, hown, hts⟩ (c_X0_nudgeOf_v l D N0 cA cL E h d ((zNg c w.toNatClampNeg p z (q + 2))) c w hw) (cwV 1 hts gL_isNudgedSo_X0_nudgeOf rfl rfl rfl (by decide +kernel) ⟨Nat.le_of_ble_eq_true rfl, Nat.le_of_ble_eq_true rfl⟩) ⟨zPre.blind, va_recv hK hP (ci := 0) (q0 := 0) rfl rfl, zPre.call hN hP hD hK hE hS⟩ rfl rfl hl.1 rfl (lv_room (Nat.le_of_ble_eq_true rfl)) dL_isNudgedSo_151 ⟨Nat.zero_le _, Nat.zero_le _⟩).run) (fun r_151 h_151 => ?_)
            have h_151 : r_151 = (((zNg c w.toNatClampNeg p z (q + 2))).2.1 w.toNatClampNeg) := h_151
            subst h_151
            rw [show ((((zNg c w.toNatClampNeg p z (q + 2))).2.1 w.toNatClampNeg) : Int32) = (zIt c.2.2.1 (r - p) (q + 1) n1) from ((zSg_2 c w.toNatClampNeg p (zNg c w.toNatClampNeg p z (q + 1))).trans hng.2)]
            refine lv_iadd hx hb dL_isNudgedSo_154 ?_
            refine lv_icmp_ne (tgt := 206) hx hb dL_isNudgedSo_155 (by decide) (fun c_155 => ?_) (fun c_155 => ?_)
            · exact absurd rfl c_155
            · refine lv_iload hx hb dL_isNudgedSo_158 (lv_at hl 0 rfl) ?_
              refine lv_iload hx hb dL_isNudgedSo_160 (lv_at hl 4 rfl) ?_
              refine lv_icmp_gt (tgt := 206) hx hb dL_isNudgedSo_162 (by decide) (fun c_162 => ?_) (fun c_162 => ?_)
              · exact absurd c_162 (Int32.not_lt.mpr (zGap_m hs0 hs hp hr9 (hit q)))
              · refine lv_iload_n hx hb dL_isNudgedSo_165 rfl (lv_at hl 6 rfl) ?_
                refine lv_if_lt (tgt := 193) hx hb dL_isNudgedSo_166 (by decide) (fun c_166 => ?_) (fun c_166 => ?_)
                · exact J193 ls (lv_sub hl [0, 1, 2, 3, 4, 5, 6, 7, 8, 9] rfl)
                · refine lv_iload hx hb dL_isNudgedSo_169 (lv_at hl 0 rfl) ?_
                  refine lv_if_ne (tgt := 178) hx hb dL_isNudgedSo_171 (by decide) (fun c_171 => ?_) (fun c_171 => ?_)
                  · refine lv_iconst (v := 0) hx hb dL_isNudgedSo_178 (by decide) ?_
                    refine lv_iload hx hb dL_isNudgedSo_179 (lv_at hl 2 rfl) ?_
                    refine lv_iload_n hx hb dL_isNudgedSo_181 rfl (lv_at hl 6 rfl) ?_
                    refine lv_icmp_lt (tgt := 189) hx hb dL_isNudgedSo_182 (by decide) (fun c_182 => ?_) (fun c_182 => ?_)
                    · refine lv_iconst (v := 0) hx hb dL_isNudgedSo_189 (by decide) ?_
                      refine lv_icmp_ne (tgt := 206) hx hb dL_isNudgedSo_190 (by decide) (fun c_190 => absurd c_190 (by decide)) (fun _ => ?_)
                      exact J193 ls (lv_sub hl [0, 1, 2, 3, 4, 5, 6, 7, 8, 9] rfl)
                    · refine lv_iconst (v := 1) hx hb dL_isNudgedSo_185 (by decide) ?_
                      refine lv_goto (tgt := 190) hx hb dL_isNudgedSo_186 (by decide) ?_
                      exact absurd ((hd2 c_166).mpr c_182) c_171
                  · refine lv_iconst (v := 1) hx hb dL_isNudgedSo_174 (by decide) ?_
                    refine lv_goto (tgt := 179) hx hb dL_isNudgedSo_175 (by decide) ?_
                    refine lv_iload hx hb dL_isNudgedSo_179 (lv_at hl 2 rfl) ?_
                    refine lv_iload_n hx hb dL_isNudgedSo_181 rfl (lv_at hl 6 rfl) ?_
                    refine lv_icmp_lt (tgt := 189) hx hb dL_isNudgedSo_182 (by decide) (fun c_182 => ?_) (fun c_182 => ?_)
                    · refine lv_iconst (v := 0) hx hb dL_isNudgedSo_189 (by decide) ?_
                      exact absurd c_182 ((hd2 c_166).mp c_171)
                    · refine lv_iconst (v := 1) hx hb dL_isNudgedSo_185 (by decide) ?_
                      refine lv_goto (tgt := 190) hx hb dL_isNudgedSo_186 (by decide) ?_
                      refine lv_icmp_ne (tgt := 206) hx hb dL_isNudgedSo_190 (by decide) (fun c_190 => absurd c_190 (by decide)) (fun _ => ?_)
                      exact J193 ls (lv_sub hl [0, 1, 2, 3, 4, 5, 6, 7, 8, 9] rfl)
        refine lv_istore (lv' := [(9, .int (p + (zIt c.2.2.1 (r - p) (q + 1) n1))), (8, .int (nI (q + 2))), (7, .int 1), (6, .int (zGap p r (zIt c.2.2.1 (r - p) q n1))), (5, .int r), (3, .int due), (2, .int p), (1, .int w), (0, .ref h)]) hx hb dL_isNudgedSo_112 hl (by decide) rfl (fun ls hl => ?_)
        refine lv_iload hx hb dL_isNudgedSo_114 (lv_at hl 0 rfl) ?_
        refine lv_iload hx hb dL_isNudgedSo_116 (lv_at hl 4 rfl) ?_
        refine lv_icmp_le (tgt := 129) hx hb dL_isNudgedSo_118 (by decide) (fun c_118 => ?_) (fun c_118 => ?_)
        · refine lv_iload hx hb dL_isNudgedSo_129 (lv_at hl 4 rfl) ?_
          refine lv_iload hx hb dL_isNudgedSo_131 (lv_at hl 0 rfl) ?_
          refine lv_isub hx hb dL_isNudgedSo_133 ?_
          rw [show ((r - (p + (zIt c.2.2.1 (r - p) (q + 1) n1))) : Int32) = (zGap p r (zIt c.2.2.1 (r - p) (q + 1) n1)) from (if_pos c_118).symm]
          refine lv_istore (lv' := [(10, .int (zGap p r (zIt c.2.2.1 (r - p) (q + 1) n1))), (9, .int (p + (zIt c.2.2.1 (r - p) (q + 1) n1))), (8, .int (nI (q + 2))), (7, .int 1), (6, .int (zGap p r (zIt c.2.2.1 (r - p) q n1))), (5, .int r), (3, .int due), (2, .int p), (1, .int w), (0, .ref h)]) hx hb dL_isNudgedSo_134 hl (by decide) rfl (fun ls hl => ?_)
          exact J136 ls (lv_sub hl [0, 1, 2, 3, 4, 5, 6, 7, 8, 9] rfl)
        · refine lv_iload hx hb dL_isNudgedSo_121 (lv_at hl 0 rfl) ?_
          refine lv_iload hx hb dL_isNudgedSo_123 (lv_at hl 4 rfl) ?_
          refine lv_isub hx hb dL_isNudgedSo_125 ?_
          rw [show (((p + (zIt c.2.2.1 (r - p) (q + 1) n1)) - r) : Int32) = (zGap p r (zIt c.2.2.1 (r - p) (q + 1) n1)) from (if_neg c_118).symm]
          refine lv_goto (tgt := 134) hx hb dL_isNudgedSo_126 (by decide) ?_
          refine lv_istore (lv' := [(10, .int (zGap p r (zIt c.2.2.1 (r - p) (q + 1) n1))), (9, .int (p + (zIt c.2.2.1 (r - p) (q + 1) n1))), (8, .int (nI (q + 2))), (7, .int 1), (6, .int (zGap p r (zIt c.2.2.1 (r - p) q n1))), (5, .int r), (3, .int due), (2, .int p), (1, .int w), (0, .ref h)]) hx hb dL_isNudgedSo_134 hl (by decide) rfl (fun ls hl => ?_)
          exact J136 ls (lv_sub hl [0, 1, 2, 3, 4, 5, 6, 7, 8, 9] rfl)
  refine lv_aload_n hx hb dL_isNudgedSo_0 rfl (lv_at hl 0 rfl) ?_
  refine lv_iload_n hx hb dL_isNudgedSo_1 rfl (lv_at hl 1 rfl) ?_
  refine lv_iload_n hx hb dL_isNudgedSo_2 rfl (lv_at hl 2 rfl) ?_
  refine vp_callSi ((va_runV (As := [.int w, .int p]) (rest := []) ⟨hx, hb, hml, hown, hts⟩ (c_X0_framesToRung_v l D N0 cA cL E h d z c w p hc hw hp) (cwV 2 hts gL_isNudgedSo_X0_framesToRung rfl rfl rfl (by decide +kernel) ⟨Nat.le_of_ble_eq_true rfl, Nat.le_of_ble_eq_true rfl⟩) ⟨zPre.blind, va_recv hK hP (ci := 0) (q0 := 0) rfl rfl, zPre.call hN hP hD hK hE hS⟩ rfl rfl hl.1 rfl (lv_room (Nat.le_of_ble_eq_true rfl)) dL_isNudgedSo_3 ⟨Nat.zero_le _, Nat.zero_le _⟩).run) (fun r_3 h_3 => ?_)
  have h_3 : r_3 = (zFR c w.toNatClampNeg p z) := h_3
  subst h_3
  rw [show ((zFR c w.toNatClampNeg p z) : Int32) = due from hdue]
  refine lv_istore_n (lv' := [(3, .int due), (0, .ref h), (1, .int w), (2, .int p)]) hx hb dL_isNudgedSo_6 rfl hl (by decide) rfl (fun ls hl => ?_)
  refine lv_aload_n hx hb dL_isNudgedSo_7 rfl (lv_at hl 1 rfl) ?_
  refine lv_iload_n hx hb dL_isNudgedSo_8 rfl (lv_at hl 2 rfl) ?_
  refine lv_iload_n hx hb dL_isNudgedSo_9 rfl (lv_at hl 3 rfl) ?_
  refine va_calli (va_runV (As := [.int w, .int p]) (rest := []) ⟨hx, hb, hml, hown, hts⟩ (c_X0_sing_v l D N0 cA cL E h d z c w p hc hw hp) (cwV 2 hts gL_isNudgedSo_X0_sing rfl rfl rfl (by decide +kernel) ⟨Nat.le_of_ble_eq_true rfl, Nat.le_of_ble_eq_true rfl⟩) ⟨zPre.blind, va_recv hK hP (ci := 0) (q0 := 0) rfl rfl, zPre.call hN hP hD hK hE hS⟩ rfl rfl hl.1 rfl (lv_room (Nat.le_of_ble_eq_true rfl)) dL_isNudgedSo_10 ⟨Nat.zero_le _, Nat.zero_le _⟩) hS (fun _ _ h9 => h9) (fun _ h9 => h9) (fun r_10 _ t H locs ht hvm h_10 hB hz1 hk1 hS => ?_)
  have h_10 : r_10 = (zOut c w.toNatClampNeg p z) := h_10
  subst h_10
  obtain ⟨hP, hD⟩ := hB
  rw [ht] at hP
  have hP : va_P D vwCl (wX h d cA (zSg c w.toNatClampNeg p z) c ++ E) H := hP
  have hD : va_D (zA N0) (wX h d cA (zSg c w.toNatClampNeg p z) c ++ E) := hD
  have hP : va_P D vwCl (wX h d cA ((zNg c w.toNatClampNeg p z 1)) c ++ E) H := hP
  have hD : va_D (zA N0) (wX h d cA ((zNg c w.toNatClampNeg p z 1)) c ++ E) := hD
  rw [show zOut c w.toNatClampNeg p z = (p + n1) from (by rw [← hn0]; rfl)]
  have J44 : ∀ (ls : Array Slot), lv_has ls 11 [(6, .int (zGap p r n1)), (5, .int r), (4, .int (p + n1)), (3, .int due), (0, .ref h), (1, .int w), (2, .int p)] → W pr l e (headSpec wsL_isNudgedSo ({ frames := 8, cells := 0, slots := 0, locals := 183 })).room s m ([.ref h, .int w, .int p] : List Value).toArray below meth cd H locs 0 0 (MQ below (va_Qi (fun (rv : Int32) (_ : Unit) => rv = 1) (fun _ t => zPost D N0 (wX h d cA ((zNg c w.toNatClampNeg p z 39)) c ++ E) t) (zA N0)) ([.ref h, .int w, .int p] : List Value).toArray s 0 0 (zA N0)) (F0 m 44 ls []) := by
    intro ls hl
    refine lv_iload hx hb dL_isNudgedSo_44 (lv_at hl 2 rfl) ?_
    refine lv_iload_n hx hb dL_isNudgedSo_46 rfl (lv_at hl 6 rfl) ?_
    refine lv_aload_n hx hb dL_isNudgedSo_47 rfl (lv_at hl 4 rfl) ?_
    refine lv_iload_n hx hb dL_isNudgedSo_48 rfl (lv_at hl 5 rfl) ?_
    refine vp_callSi ((va_runV (As := [.int w]) (rest := [.int p, .int (p + n1)]) ⟨hx, hb, hml, hown, hts⟩ (c_X0_nudgeOf_v l D N0 cA cL E h d ((zNg c w.toNatClampNeg p z 1)) c w hw) (cwV 1 hts gL_isNudgedSo_X0_nudgeOf rfl rfl rfl (by decide +kernel) ⟨Nat.le_of_ble_eq_true rfl, Nat.le_of_ble_eq_true rfl⟩) ⟨zPre.blind, va_recv hK hP (ci := 0) (q0 := 0) rfl rfl, zPre.call hN hP hD hK hE hS⟩ rfl rfl hl.1 rfl (lv_room (Nat.le_of_ble_eq_true rfl)) dL_isNudgedSo_49 ⟨Nat.zero_le _, Nat.zero_le _⟩).run) (fun r_49 h_49 => ?_)
    have h_49 : r_49 = (((zNg c w.toNatClampNeg p z 1)).2.1 w.toNatClampNeg) := h_49
    subst h_49
    rw [show ((((zNg c w.toNatClampNeg p z 1)).2.1 w.toNatClampNeg) : Int32) = n1 from ((zSg_2 c w.toNatClampNeg p z).trans hn0)]
    refine lv_iadd hx hb dL_isNudgedSo_52 ?_
    refine lv_icmp_ne (tgt := 88) hx hb dL_isNudgedSo_53 (by decide) (fun c_53 => ?_) (fun c_53 => ?_)
    · exact absurd rfl c_53
    · refine lv_iload hx hb dL_isNudgedSo_56 (lv_at hl 1 rfl) ?_
      refine lv_if_lt (tgt := 88) hx hb dL_isNudgedSo_58 (by decide) (fun c_58 => ?_) (fun c_58 => ?_)
      · exact absurd hr9.1 (Int32.not_le.mpr c_58)
      · refine lv_iload_n hx hb dL_isNudgedSo_61 rfl (lv_at hl 3 rfl) ?_
        refine lv_iconst (v := 1) hx hb dL_isNudgedSo_62 (by decide) ?_
        refine lv_icmp_ne (tgt := 70) hx hb dL_isNudgedSo_63 (by decide) (fun c_63 => ?_) (fun c_63 => ?_)
        · refine lv_iconst (v := 0) hx hb dL_isNudgedSo_70 (by decide) ?_
          refine lv_iload hx hb dL_isNudgedSo_71 (lv_at hl 0 rfl) ?_
          refine lv_if_ne (tgt := 80) hx hb dL_isNudgedSo_73 (by decide) (fun c_73 => ?_) (fun c_73 => ?_)
          · refine lv_iconst (v := 0) hx hb dL_isNudgedSo_80 (by decide) ?_
            refine lv_icmp_ne (tgt := 88) hx hb dL_isNudgedSo_81 (by decide) (fun c_81 => absurd c_81 (by decide)) (fun _ => ?_)
            refine lv_iconst (v := 1) hx hb dL_isNudgedSo_84 (by decide) ?_
            refine lv_goto (tgt := 89) hx hb dL_isNudgedSo_85 (by decide) ?_
            refine lv_istore (lv' := [(7, .int 1), (6, .int (zGap p r n1)), (5, .int r), (4, .int (p + n1)), (3, .int due), (0, .ref h), (1, .int w), (2, .int p)]) hx hb dL_isNudgedSo_89 hl (by decide) rfl (fun ls hl => ?_)
            refine lv_iconst (v := 2) hx hb dL_isNudgedSo_91 (by decide) ?_
            refine lv_istore (lv' := [(8, .int 2), (7, .int 1), (6, .int (zGap p r n1)), (5, .int r), (4, .int (p + n1)), (3, .int due), (0, .ref h), (1, .int w), (2, .int p)]) hx hb dL_isNudgedSo_92 hl (by decide) rfl (fun ls hl => ?_)
            exact loop 39 0 (by decide) (by decide) _ _ hP hD hS ls (lv_sub hl [0, 1, 2, 3, 5, 8, 7, 6] rfl)
          · refine lv_iconst (v := 1) hx hb dL_isNudgedSo_76 (by decide) ?_
            refine lv_goto (tgt := 81) hx hb dL_isNudgedSo_77 (by decide) ?_
            exact absurd (hdue1.mpr c_73) c_63
        · refine lv_iconst (v := 1) hx hb dL_isNudgedSo_66 (by decide) ?_
          refine lv_goto (tgt := 71) hx hb dL_isNudgedSo_67 (by decide) ?_
          refine lv_iload hx hb dL_isNudgedSo_71 (lv_at hl 0 rfl) ?_
          refine lv_if_ne (tgt := 80) hx hb dL_isNudgedSo_73 (by decide) (fun c_73 => ?_) (fun c_73 => ?_)
          · refine lv_iconst (v := 0) hx hb dL_isNudgedSo_80 (by decide) ?_
            exact absurd (hdue1.mp c_63) c_73
          · refine lv_iconst (v := 1) hx hb dL_isNudgedSo_76 (by decide) ?_
            refine lv_goto (tgt := 81) hx hb dL_isNudgedSo_77 (by decide) ?_
            refine lv_icmp_ne (tgt := 88) hx hb dL_isNudgedSo_81 (by decide) (fun c_81 => absurd c_81 (by decide)) (fun _ => ?_)
            refine lv_iconst (v := 1) hx hb dL_isNudgedSo_84 (by decide) ?_
            refine lv_goto (tgt := 89) hx hb dL_isNudgedSo_85 (by decide) ?_
            refine lv_istore (lv' := [(7, .int 1), (6, .int (zGap p r n1)), (5, .int r), (4, .int (p + n1)), (3, .int due), (0, .ref h), (1, .int w), (2, .int p)]) hx hb dL_isNudgedSo_89 hl (by decide) rfl (fun ls hl => ?_)
            refine lv_iconst (v := 2) hx hb dL_isNudgedSo_91 (by decide) ?_
            refine lv_istore (lv' := [(8, .int 2), (7, .int 1), (6, .int (zGap p r n1)), (5, .int r), (4, .int (p + n1)), (3, .int due), (0, .ref h), (1, .int w), (2, .int p)]) hx hb dL_isNudgedSo_92 hl (by decide) rfl (fun ls hl => ?_)
            exact loop 39 0 (by decide) (by decide) _ _ hP hD hS ls (lv_sub hl [0, 1, 2, 3, 5, 8, 7, 6] rfl)
  refine lv_istore (lv' := [(4, .int (p + n1)), (3, .int due), (0, .ref h), (1, .int w), (2, .int p)]) hx hb dL_isNudgedSo_13 hl (by decide) rfl (fun ls hl => ?_)
  refine lv_aload_n hx hb dL_isNudgedSo_15 rfl (lv_at hl 2 rfl) ?_
  refine lv_iload_n hx hb dL_isNudgedSo_16 rfl (lv_at hl 3 rfl) ?_
  refine vp_callSi ((va_runV (As := [.int w]) (rest := []) ⟨hx, hb, hml, hown, hts⟩ (c_X0_rungOf_v l D N0 cA cL E h d ((zNg c w.toNatClampNeg p z 1)) c w hw) (cwV 1 hts gL_isNudgedSo_X0_rungOf rfl rfl rfl (by decide +kernel) ⟨Nat.le_of_ble_eq_true rfl, Nat.le_of_ble_eq_true rfl⟩) ⟨zPre.blind, va_recv hK hP (ci := 0) (q0 := 0) rfl rfl, zPre.call hN hP hD hK hE hS⟩ rfl rfl hl.1 rfl (lv_room (Nat.le_of_ble_eq_true rfl)) dL_isNudgedSo_17 ⟨Nat.zero_le _, Nat.zero_le _⟩).run) (fun r_17 h_17 => ?_)
  have h_17 : r_17 = (((zNg c w.toNatClampNeg p z 1)).1 w.toNatClampNeg) := h_17
  subst h_17
  rw [show ((((zNg c w.toNatClampNeg p z 1)).1 w.toNatClampNeg) : Int32) = r from ((zSg_1 c w.toNatClampNeg p z).trans hr0)]
  refine lv_istore (lv' := [(5, .int r), (4, .int (p + n1)), (3, .int due), (0, .ref h), (1, .int w), (2, .int p)]) hx hb dL_isNudgedSo_20 hl (by decide) rfl (fun ls hl => ?_)
  refine lv_iload hx hb dL_isNudgedSo_22 (lv_at hl 1 rfl) ?_
  refine lv_iload hx hb dL_isNudgedSo_24 (lv_at hl 0 rfl) ?_
  refine lv_icmp_le (tgt := 37) hx hb dL_isNudgedSo_26 (by decide) (fun c_26 => ?_) (fun c_26 => ?_)
  · refine lv_iload hx hb dL_isNudgedSo_37 (lv_at hl 0 rfl) ?_
    refine lv_iload hx hb dL_isNudgedSo_39 (lv_at hl 1 rfl) ?_
    refine lv_isub hx hb dL_isNudgedSo_41 ?_
    rw [show ((r - (p + n1)) : Int32) = (zGap p r n1) from (if_pos c_26).symm]
    refine lv_istore (lv' := [(6, .int (zGap p r n1)), (5, .int r), (4, .int (p + n1)), (3, .int due), (0, .ref h), (1, .int w), (2, .int p)]) hx hb dL_isNudgedSo_42 hl (by decide) rfl (fun ls hl => ?_)
    exact J44 ls (lv_sub hl [0, 1, 2, 3, 4, 5, 6] rfl)
  · refine lv_iload hx hb dL_isNudgedSo_29 (lv_at hl 1 rfl) ?_
    refine lv_iload hx hb dL_isNudgedSo_31 (lv_at hl 0 rfl) ?_
    refine lv_isub hx hb dL_isNudgedSo_33 ?_
    rw [show (((p + n1) - r) : Int32) = (zGap p r n1) from (if_neg c_26).symm]
    refine lv_goto (tgt := 42) hx hb dL_isNudgedSo_34 (by decide) ?_
    refine lv_istore (lv' := [(6, .int (zGap p r n1)), (5, .int r), (4, .int (p + n1)), (3, .int due), (0, .ref h), (1, .int w), (2, .int p)]) hx hb dL_isNudgedSo_42 hl (by decide) rfl (fun ls hl => ?_)
    exact J44 ls (lv_sub hl [0, 1, 2, 3, 4, 5, 6] rfl)
