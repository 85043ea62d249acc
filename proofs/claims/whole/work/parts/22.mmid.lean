def zMv (c : C5) (i : Nat) (p : Int32) (z : S7) : Int32 := if zLeap c (z.1 i) (zR c i p z) then 2 else if zChg (z.1 i) (zR c i p z) then 1 else 0
def zBy (sp m : Int32) : Int32 := if m * sp / 100 = 0 ∧ ¬ sp = 0 then (if 0 < m then 1 else if m < 0 then -1 else 0) else m * sp / 100
theorem zTow_by (sp n due : Int32) : n + zBy sp (due - n) = zTow sp n due := rfl
theorem zBy_1 {sp m : Int32} (h : ¬ m * sp / 100 = 0) : zBy sp m = m * sp / 100 := if_neg (fun q => h q.1)
theorem zBy_2 {sp m : Int32} (h : m * sp / 100 = 0) (hm : m = 0) : zBy sp m = m * sp / 100 := by
  by_cases hs : sp = 0
  · exact if_neg (fun q => q.2 hs)
  · have e : zBy sp m = (if 0 < m then 1 else if m < 0 then -1 else 0) := if_pos ⟨h, hs⟩
    rw [e, h, hm]
    decide
theorem zBy_3 {sp m : Int32} (h0 : 0 ≤ sp) (hs : sp ≤ 0) : zBy sp m = m * sp / 100 := if_neg (fun q => q.2 (by rw [fa_eq]; rw [fa_le] at h0 hs; have e : (0 : Int32).toInt = 0 := rfl; omega))
theorem zBy_4 {sp m : Int32} (h : m * sp / 100 = 0) (hs : ¬ sp ≤ 0) (hm : ¬ m = 0) (hm2 : m ≤ 0) : zBy sp m = -1 := by
  have e : zBy sp m = (if 0 < m then 1 else if m < 0 then -1 else 0) := if_pos ⟨h, fun q => hs (by rw [q]; decide)⟩
  rw [e, if_neg (Int32.not_lt.mpr hm2), if_pos]
  rw [fa_lt]; rw [fa_le] at hm2; rw [fa_eq] at hm
  have e : (0 : Int32).toInt = 0 := rfl
  omega
theorem zBy_5 {sp m : Int32} (h : m * sp / 100 = 0) (hs : ¬ sp ≤ 0) (hm2 : ¬ m ≤ 0) : zBy sp m = 1 := by
  have e : zBy sp m = (if 0 < m then 1 else if m < 0 then -1 else 0) := if_pos ⟨h, fun q => hs (by rw [q]; decide)⟩
  rw [e, if_pos (Int32.not_le.mp hm2)]
theorem zMv_2 {c : C5} {i : Nat} {p : Int32} {z : S7} (h : zLeap c (z.1 i) (zR c i p z)) : 2 = zMv c i p z := (if_pos h).symm
theorem zMv_1 {c : C5} {i : Nat} {p : Int32} {z : S7} (h : ¬ zLeap c (z.1 i) (zR c i p z)) (h2 : zChg (z.1 i) (zR c i p z)) : 1 = zMv c i p z := by
  unfold zMv
  rw [if_neg h, if_pos h2]
theorem zMv_0 {c : C5} {i : Nat} {p : Int32} {z : S7} (h : ¬ zLeap c (z.1 i) (zR c i p z)) (h2 : ¬ zChg (z.1 i) (zR c i p z)) : 0 = zMv c i p z := by
  unfold zMv
  rw [if_neg h, if_neg h2]
theorem zMv_c0 {c : C5} {i : Nat} {p : Int32} {z : S7} (h : zMv c i p z ≤ 0) : ¬ zChg (z.1 i) (zR c i p z) := by
  intro q
  unfold zMv at h
  by_cases h1 : zLeap c (z.1 i) (zR c i p z)
  · rw [if_pos h1] at h; exact absurd h (by decide)
  · rw [if_neg h1, if_pos q] at h; exact absurd h (by decide)
theorem zMv_c1 {c : C5} {i : Nat} {p : Int32} {z : S7} (h : ¬ zMv c i p z ≤ 0) : zChg (z.1 i) (zR c i p z) := by
  by_cases q : zChg (z.1 i) (zR c i p z)
  · exact q
  · exact absurd (by rw [← zMv_0 (fun x => q x.1) q]; decide) h
theorem zMv_l0 {c : C5} {i : Nat} {p : Int32} {z : S7} (h : zMv c i p z ≤ 1) : ¬ zLeap c (z.1 i) (zR c i p z) := by
  intro q
  rw [← zMv_2 q] at h
  exact absurd h (by decide)
theorem zMv_l1 {c : C5} {i : Nat} {p : Int32} {z : S7} (h : ¬ zMv c i p z ≤ 1) : zLeap c (z.1 i) (zR c i p z) := by
  by_cases q : zLeap c (z.1 i) (zR c i p z)
  · exact q
  · refine absurd ?_ h
    unfold zMv
    rw [if_neg q]
    split <;> decide
theorem zB_0 {b : Prop} [Decidable b] {f : Nat → Int32} {i : Nat} (h : ¬ b) : zB b f i = upd f i (f i + 0) := by
  have e : zB b f i = f := if_neg h
  rw [e, Int32.add_zero]
  funext k
  by_cases hk : k = i
  · rw [hk, pk_us]
  · rw [pk_un hk]
theorem zB_1 {b : Prop} [Decidable b] {f : Nat → Int32} {i : Nat} (h : b) : zB b f i = upd f i (f i + 1) := if_pos h
theorem zSem_M {p : Int32} (hp : zp p) : ((p + 50) / 100) - ((p + 50) / 100) / 12 * 12 = nI (zSem p) := by
  obtain ⟨n, hn, rfl⟩ := nI_of2 (n := 12000) (M := 12000) rfl (Int32.not_lt.mpr hp.1) hp.2
  have e1 : nI n + 50 = nI (n + 50) := nI_add n 50
  have e2 : nI (n + 50) / 100 = nI ((n + 50) / 100) := pk_div (d := 100) (by omega) (by decide) (by decide)
  rw [e1, e2]
  unfold zSem
  rw [nI_clamp (by omega)]
  exact pk_rem (d := 12) (by omega) (by decide) (by decide)
theorem okZ_n {z : S7} (hz : okZ z) {i : Nat} (h : z.1 i < 0) : z.1 i = -1 := by
  rcases hz i with q | ⟨q, -⟩
  · exact q
  · exact absurd h (Int32.not_lt.mpr q)
theorem okZ_p {x : Int32} (h : ¬ x < 0) : ¬ x = -1 := fun q => h (by rw [q]; decide)

set_option maxHeartbeats 4000000 in
set_option maxRecDepth 100000 in
theorem c_X1_moves (l : Launch) (D : va_G) (N0 : Nat) (cA cL : ClassId) (E : va_W) (h : Nat) (d : Nat → Nat) (th : Int32) (z : S7) (c : C5) (w : Int32) (p : Int32) (hc : okC c) (hw : zw w) (hp : zp p) (hz : okZ z) : Met l yX1_moves wsX1_moves ({ frames := 5, cells := 0, slots := 0, locals := 112 }) (va_Pc [.ref h, .int w, .int p] (zPre D N0 cA cL (wM h d cA (th) z c ++ E))) (va_Qi (fun (rv : Int32) (_ : Unit) => rv = zMv c w.toNatClampNeg p z) (fun _ t => zPost D N0 (wM h d cA (th) ((upd z.1 w.toNatClampNeg (zR c w.toNatClampNeg p z)), (upd z.2.1 w.toNatClampNeg (zG c w.toNatClampNeg p z)), z.2.2.1, z.2.2.2.1, z.2.2.2.2.1, z.2.2.2.2.2.1, z.2.2.2.2.2.2) c ++ E) t) (zA N0)) 0 0 (zA N0) := by
  refine Met.ofW (cc := cX1_moves) (maxL := 10) (ret := (some .int)) (by decide) rfl ?_
  intro pr e s m ag below meth cd s₁ B hml hv
  obtain ⟨rfl, hN, hP, hD, hK, hE⟩ := hv
  have hx := B.exec
  have hb := B.bytes
  have hr := B.returns
  have hts := atoms_spec (ws := wsX1_moves) B.pre
  have hown : s.vm.findClass RX1 = some m.cls := findClass_of_methodNamed B.named
  have hlocks := B.notSynchronized
  have hS : va_S (zA N0) s.heap s.heap [] := va_S.rf
  have hiw : ∀ w ∈ u_ws RX1 TX1 13, w ∈ wsX1_moves := by decide +kernel
  have hl := lv_entry ([.ref h, .int w, .int p]) (n := 10) (Nat.le_of_ble_eq_true rfl)
  rw [lg_entry_eq]
  generalize (lg_sl ([.ref h, .int w, .int p]) ++ List.replicate (10 - (lg_sl ([.ref h, .int w, .int p])).length) Slot.unset).toArray = ls at hl ⊢
  have hl : lv_has ls 10 [(0, .ref h), (1, .int w), (2, .int p)] := hl
  have j149 : ∀ (ls : Array Slot), lv_has ls 10 [(9, .int (zBy c.2.2.1 (((zR c w.toNatClampNeg p z) - p) - (z.2.1 w.toNatClampNeg)))), (7, .int (zb (zLeap c (z.1 w.toNatClampNeg) (zR c w.toNatClampNeg p z)))), (6, .int (zb (zChg (z.1 w.toNatClampNeg) (zR c w.toNatClampNeg p z)))), (5, .int (zR c w.toNatClampNeg p z)), (3, .int (z.1 w.toNatClampNeg)), (0, .ref h), (1, .int w), (2, .int p)] → W pr l e (headSpec wsX1_moves ({ frames := 5, cells := 0, slots := 0, locals := 112 })).room s m ([.ref h, .int w, .int p] : List Value).toArray below meth cd s.heap [] 0 0 (MQ below (va_Qi (fun (rv : Int32) (_ : Unit) => rv = zMv c w.toNatClampNeg p z) (fun _ t => zPost D N0 (wM h d cA (th) ((upd z.1 w.toNatClampNeg (zR c w.toNatClampNeg p z)), (upd z.2.1 w.toNatClampNeg (zG c w.toNatClampNeg p z)), z.2.2.1, z.2.2.2.1, z.2.2.2.2.1, z.2.2.2.2.2.1, z.2.2.2.2.2.2) c ++ E) t) (zA N0)) ([.ref h, .int w, .int p] : List Value).toArray s 0 0 (zA N0)) (F0 m 149 ls []) := by
    intro ls hl
    refine lv_aload_n hx hb dX1_moves_149 rfl (lv_at hl 5 rfl) ?_
    refine va_get (D := D) (ci := 1) (v := .ref (d 0)) (C := RX1) (T := TX1) (N := 13) hx hb hts hiw hown hK hP 0 rfl rfl 6 (by decide) (hts (.fieldLink RX1 19 "TunedWrensModel" "rungs" "[I") (by decide +kernel)) (fun _ h9 => h9) rfl dX1_moves_150 ?_
    refine lv_iload_n hx hb dX1_moves_153 rfl (lv_at hl 6 rfl) ?_
    refine lv_iload hx hb dX1_moves_154 (lv_at hl 3 rfl) ?_
    refine va_iast hx hb hK hP hD hS 1 0 rfl rfl (zw_in hw) dX1_moves_156 (fun H locs hP hD hS => ?_)
    have hP : va_P D vwCl (wM h d cA (th) ((upd z.1 w.toNatClampNeg (zR c w.toNatClampNeg p z)), z.2.1, z.2.2.1, z.2.2.2.1, z.2.2.2.2.1, z.2.2.2.2.2.1, z.2.2.2.2.2.2) c ++ E) H := hP
    have hD : va_D (zA N0) (wM h d cA (th) ((upd z.1 w.toNatClampNeg (zR c w.toNatClampNeg p z)), z.2.1, z.2.2.1, z.2.2.2.1, z.2.2.2.2.1, z.2.2.2.2.2.1, z.2.2.2.2.2.2) c ++ E) := hD
    refine lv_aload_n hx hb dX1_moves_157 rfl (lv_at hl 5 rfl) ?_
    refine va_get (D := D) (ci := 1) (v := .ref (d 1)) (C := RX1) (T := TX1) (N := 13) hx hb hts hiw hown hK hP 0 rfl rfl 7 (by decide) (hts (.fieldLink RX1 23 "TunedWrensModel" "nudges" "[I") (by decide +kernel)) (fun _ h9 => h9) rfl dX1_moves_158 ?_
    refine lv_iload_n hx hb dX1_moves_161 rfl (lv_at hl 6 rfl) ?_
    refine lv_iload hx hb dX1_moves_162 (lv_at hl 1 rfl) ?_
    refine lv_if_eq (tgt := 171) hx hb dX1_moves_164 (by decide) (fun c_164 => ?_) (fun c_164 => ?_)
    · refine lv_aload_n hx hb dX1_moves_171 rfl (lv_at hl 5 rfl) ?_
      refine va_get (D := D) (ci := 1) (v := .ref (d 1)) (C := RX1) (T := TX1) (N := 13) hx hb hts hiw hown hK hP 0 rfl rfl 7 (by decide) (hts (.fieldLink RX1 23 "TunedWrensModel" "nudges" "[I") (by decide +kernel)) (fun _ h9 => h9) rfl dX1_moves_172 ?_
      refine lv_iload_n hx hb dX1_moves_175 rfl (lv_at hl 6 rfl) ?_
      refine va_iald hx hb hK hP 2 0 rfl rfl (zw_in hw) dX1_moves_176 ?_
      refine lv_iload hx hb dX1_moves_177 (lv_at hl 0 rfl) ?_
      refine lv_iadd hx hb dX1_moves_179 ?_
      refine va_iast hx hb hK hP hD hS 2 0 rfl rfl (zw_in hw) dX1_moves_180 (fun H locs hP hD hS => ?_)
      have hP : va_P D vwCl (wM h d cA (th) ((upd z.1 w.toNatClampNeg (zR c w.toNatClampNeg p z)), (upd z.2.1 w.toNatClampNeg ((z.2.1 w.toNatClampNeg) + (zBy c.2.2.1 (((zR c w.toNatClampNeg p z) - p) - (z.2.1 w.toNatClampNeg))))), z.2.2.1, z.2.2.2.1, z.2.2.2.2.1, z.2.2.2.2.2.1, z.2.2.2.2.2.2) c ++ E) H := hP
      have hD : va_D (zA N0) (wM h d cA (th) ((upd z.1 w.toNatClampNeg (zR c w.toNatClampNeg p z)), (upd z.2.1 w.toNatClampNeg ((z.2.1 w.toNatClampNeg) + (zBy c.2.2.1 (((zR c w.toNatClampNeg p z) - p) - (z.2.1 w.toNatClampNeg))))), z.2.2.1, z.2.2.2.1, z.2.2.2.2.1, z.2.2.2.2.2.1, z.2.2.2.2.2.2) c ++ E) := hD
      refine lv_iload hx hb dX1_moves_181 (lv_at hl 1 rfl) ?_
      refine lv_if_eq (tgt := 190) hx hb dX1_moves_183 (by decide) (fun c_183 => ?_) (fun c_183 => ?_)
      · refine lv_iload hx hb dX1_moves_190 (lv_at hl 2 rfl) ?_
        refine lv_if_eq (tgt := 199) hx hb dX1_moves_192 (by decide) (fun c_192 => ?_) (fun c_192 => ?_)
        · refine lv_iconst (v := 0) hx hb dX1_moves_199 (by decide) ?_
          have hP : va_P D vwCl (wM h d cA (th) ((upd z.1 w.toNatClampNeg (zR c w.toNatClampNeg p z)), (upd z.2.1 w.toNatClampNeg (zG c w.toNatClampNeg p z)), z.2.2.1, z.2.2.2.1, z.2.2.2.2.1, z.2.2.2.2.2.1, z.2.2.2.2.2.2) c ++ E) H := by
            rw [show ((upd z.2.1 w.toNatClampNeg (zG c w.toNatClampNeg p z)) : Nat → Int32) = (upd z.2.1 w.toNatClampNeg ((z.2.1 w.toNatClampNeg) + (zBy c.2.2.1 (((zR c w.toNatClampNeg p z) - p) - (z.2.1 w.toNatClampNeg))))) from by rw [show (zG c w.toNatClampNeg p z) = z.2.1 w.toNatClampNeg + (zBy c.2.2.1 (((zR c w.toNatClampNeg p z) - p) - (z.2.1 w.toNatClampNeg))) from (zNud_n (zb_f c_164)).symm]]
            exact hP
          have hD : va_D (zA N0) (wM h d cA (th) ((upd z.1 w.toNatClampNeg (zR c w.toNatClampNeg p z)), (upd z.2.1 w.toNatClampNeg (zG c w.toNatClampNeg p z)), z.2.2.1, z.2.2.2.1, z.2.2.2.2.1, z.2.2.2.2.2.1, z.2.2.2.2.2.2) c ++ E) := by
            rw [show ((upd z.2.1 w.toNatClampNeg (zG c w.toNatClampNeg p z)) : Nat → Int32) = (upd z.2.1 w.toNatClampNeg ((z.2.1 w.toNatClampNeg) + (zBy c.2.2.1 (((zR c w.toNatClampNeg p z) - p) - (z.2.1 w.toNatClampNeg))))) from by rw [show (zG c w.toNatClampNeg p z) = z.2.1 w.toNatClampNeg + (zBy c.2.2.1 (((zR c w.toNatClampNeg p z) - p) - (z.2.1 w.toNatClampNeg))) from (zNud_n (zb_f c_164)).symm]]
            exact hD
          exact W.iret (v := 0) hx hb hr (fun t ht hW => ⟨⟨_, (), rfl, zMv_0 (zb_f c_164) (zb_f c_192), ⟨by rw [ht]; exact hP, hD⟩⟩, hS.F ht⟩) hS.2.2 dX1_moves_200
        · refine lv_iconst (v := 1) hx hb dX1_moves_195 (by decide) ?_
          refine lv_goto (tgt := 200) hx hb dX1_moves_196 (by decide) ?_
          have hP : va_P D vwCl (wM h d cA (th) ((upd z.1 w.toNatClampNeg (zR c w.toNatClampNeg p z)), (upd z.2.1 w.toNatClampNeg (zG c w.toNatClampNeg p z)), z.2.2.1, z.2.2.2.1, z.2.2.2.2.1, z.2.2.2.2.2.1, z.2.2.2.2.2.2) c ++ E) H := by
            rw [show ((upd z.2.1 w.toNatClampNeg (zG c w.toNatClampNeg p z)) : Nat → Int32) = (upd z.2.1 w.toNatClampNeg ((z.2.1 w.toNatClampNeg) + (zBy c.2.2.1 (((zR c w.toNatClampNeg p z) - p) - (z.2.1 w.toNatClampNeg))))) from by rw [show (zG c w.toNatClampNeg p z) = z.2.1 w.toNatClampNeg + (zBy c.2.2.1 (((zR c w.toNatClampNeg p z) - p) - (z.2.1 w.toNatClampNeg))) from (zNud_n (zb_f c_164)).symm]]
            exact hP
          have hD : va_D (zA N0) (wM h d cA (th) ((upd z.1 w.toNatClampNeg (zR c w.toNatClampNeg p z)), (upd z.2.1 w.toNatClampNeg (zG c w.toNatClampNeg p z)), z.2.2.1, z.2.2.2.1, z.2.2.2.2.1, z.2.2.2.2.2.1, z.2.2.2.2.2.2) c ++ E) := by
            rw [show ((upd z.2.1 w.toNatClampNeg (zG c w.toNatClampNeg p z)) : Nat → Int32) = (upd z.2.1 w.toNatClampNeg ((z.2.1 w.toNatClampNeg) + (zBy c.2.2.1 (((zR c w.toNatClampNeg p z) - p) - (z.2.1 w.toNatClampNeg))))) from by rw [show (zG c w.toNatClampNeg p z) = z.2.1 w.toNatClampNeg + (zBy c.2.2.1 (((zR c w.toNatClampNeg p z) - p) - (z.2.1 w.toNatClampNeg))) from (zNud_n (zb_f c_164)).symm]]
            exact hD
          exact W.iret (v := 1) hx hb hr (fun t ht hW => ⟨⟨_, (), rfl, zMv_1 (zb_f c_164) (zb_t c_192), ⟨by rw [ht]; exact hP, hD⟩⟩, hS.F ht⟩) hS.2.2 dX1_moves_200
      · exact absurd (zb_t c_183) (zb_f c_164)
    · refine lv_iconst (v := 0) hx hb dX1_moves_167 (by decide) ?_
      refine lv_goto (tgt := 180) hx hb dX1_moves_168 (by decide) ?_
      refine va_iast hx hb hK hP hD hS 2 0 rfl rfl (zw_in hw) dX1_moves_180 (fun H locs hP hD hS => ?_)
      have hP : va_P D vwCl (wM h d cA (th) ((upd z.1 w.toNatClampNeg (zR c w.toNatClampNeg p z)), (upd z.2.1 w.toNatClampNeg 0), z.2.2.1, z.2.2.2.1, z.2.2.2.2.1, z.2.2.2.2.2.1, z.2.2.2.2.2.2) c ++ E) H := hP
      have hD : va_D (zA N0) (wM h d cA (th) ((upd z.1 w.toNatClampNeg (zR c w.toNatClampNeg p z)), (upd z.2.1 w.toNatClampNeg 0), z.2.2.1, z.2.2.2.1, z.2.2.2.2.1, z.2.2.2.2.2.1, z.2.2.2.2.2.2) c ++ E) := hD
      refine lv_iload hx hb dX1_moves_181 (lv_at hl 1 rfl) ?_
      refine lv_if_eq (tgt := 190) hx hb dX1_moves_183 (by decide) (fun c_183 => ?_) (fun c_183 => ?_)
      · exact absurd (zb_t c_164) (zb_f c_183)
      · refine lv_iconst (v := 2) hx hb dX1_moves_186 (by decide) ?_
        refine lv_goto (tgt := 200) hx hb dX1_moves_187 (by decide) ?_
        have hP : va_P D vwCl (wM h d cA (th) ((upd z.1 w.toNatClampNeg (zR c w.toNatClampNeg p z)), (upd z.2.1 w.toNatClampNeg (zG c w.toNatClampNeg p z)), z.2.2.1, z.2.2.2.1, z.2.2.2.2.1, z.2.2.2.2.2.1, z.2.2.2.2.2.2) c ++ E) H := by
          rw [show ((upd z.2.1 w.toNatClampNeg (zG c w.toNatClampNeg p z)) : Nat → Int32) = (upd z.2.1 w.toNatClampNeg 0) from by rw [show (zG c w.toNatClampNeg p z) = 0 from (zNud_l (zb_t c_164)).symm]]
          exact hP
        have hD : va_D (zA N0) (wM h d cA (th) ((upd z.1 w.toNatClampNeg (zR c w.toNatClampNeg p z)), (upd z.2.1 w.toNatClampNeg (zG c w.toNatClampNeg p z)), z.2.2.1, z.2.2.2.1, z.2.2.2.2.1, z.2.2.2.2.2.1, z.2.2.2.2.2.2) c ++ E) := by
          rw [show ((upd z.2.1 w.toNatClampNeg (zG c w.toNatClampNeg p z)) : Nat → Int32) = (upd z.2.1 w.toNatClampNeg 0) from by rw [show (zG c w.toNatClampNeg p z) = 0 from (zNud_l (zb_t c_164)).symm]]
          exact hD
        exact W.iret (v := 2) hx hb hr (fun t ht hW => ⟨⟨_, (), rfl, zMv_2 (zb_t c_164), ⟨by rw [ht]; exact hP, hD⟩⟩, hS.F ht⟩) hS.2.2 dX1_moves_200
  have j90 : ∀ (ls : Array Slot), lv_has ls 10 [(7, .int (zb (zLeap c (z.1 w.toNatClampNeg) (zR c w.toNatClampNeg p z)))), (6, .int (zb (zChg (z.1 w.toNatClampNeg) (zR c w.toNatClampNeg p z)))), (5, .int (zR c w.toNatClampNeg p z)), (3, .int (z.1 w.toNatClampNeg)), (0, .ref h), (1, .int w), (2, .int p)] → W pr l e (headSpec wsX1_moves ({ frames := 5, cells := 0, slots := 0, locals := 112 })).room s m ([.ref h, .int w, .int p] : List Value).toArray below meth cd s.heap [] 0 0 (MQ below (va_Qi (fun (rv : Int32) (_ : Unit) => rv = zMv c w.toNatClampNeg p z) (fun _ t => zPost D N0 (wM h d cA (th) ((upd z.1 w.toNatClampNeg (zR c w.toNatClampNeg p z)), (upd z.2.1 w.toNatClampNeg (zG c w.toNatClampNeg p z)), z.2.2.1, z.2.2.2.1, z.2.2.2.2.1, z.2.2.2.2.2.1, z.2.2.2.2.2.2) c ++ E) t) (zA N0)) ([.ref h, .int w, .int p] : List Value).toArray s 0 0 (zA N0)) (F0 m 90 ls []) := by
    intro ls hl
    refine lv_iload hx hb dX1_moves_90 (lv_at hl 2 rfl) ?_
    refine lv_iload_n hx hb dX1_moves_92 rfl (lv_at hl 6 rfl) ?_
    refine lv_isub hx hb dX1_moves_93 ?_
    refine lv_aload_n hx hb dX1_moves_94 rfl (lv_at hl 4 rfl) ?_
    refine va_get (D := D) (ci := 1) (v := .ref (d 1)) (C := RX1) (T := TX1) (N := 13) hx hb hts hiw hown hK hP 0 rfl rfl 7 (by decide) (hts (.fieldLink RX1 23 "TunedWrensModel" "nudges" "[I") (by decide +kernel)) (fun _ h9 => h9) rfl dX1_moves_95 ?_
    refine lv_iload_n hx hb dX1_moves_98 rfl (lv_at hl 5 rfl) ?_
    refine va_iald hx hb hK hP 2 0 rfl rfl (zw_in hw) dX1_moves_99 ?_
    refine lv_isub hx hb dX1_moves_100 ?_
    refine lv_istore (lv' := [(8, .int (((zR c w.toNatClampNeg p z) - p) - (z.2.1 w.toNatClampNeg))), (7, .int (zb (zLeap c (z.1 w.toNatClampNeg) (zR c w.toNatClampNeg p z)))), (6, .int (zb (zChg (z.1 w.toNatClampNeg) (zR c w.toNatClampNeg p z)))), (5, .int (zR c w.toNatClampNeg p z)), (3, .int (z.1 w.toNatClampNeg)), (0, .ref h), (1, .int w), (2, .int p)]) hx hb dX1_moves_101 hl (by decide) rfl (fun ls hl => ?_)
    refine lv_iload hx hb dX1_moves_103 (lv_at hl 0 rfl) ?_
    refine lv_aload_n hx hb dX1_moves_105 rfl (lv_at hl 5 rfl) ?_
    refine va_get (D := D) (ci := 1) (v := .int c.2.2.1) (C := RX1) (T := TX1) (N := 13) hx hb hts hiw hown hK hP 0 rfl rfl 3 (by decide) (hts (.fieldLink RX1 7 "TunedWrensModel" "speed" "I") (by decide +kernel)) (fun _ h9 => h9) rfl dX1_moves_106 ?_
    refine lv_imul hx hb dX1_moves_109 ?_
    refine lv_bipush (v := 100) hx hb dX1_moves_110 (by decide) ?_
    refine lv_idiv hx hb dX1_moves_112 (by decide) ?_
    refine lv_istore (lv' := [(9, .int (((((zR c w.toNatClampNeg p z) - p) - (z.2.1 w.toNatClampNeg)) * c.2.2.1) / 100)), (8, .int (((zR c w.toNatClampNeg p z) - p) - (z.2.1 w.toNatClampNeg))), (7, .int (zb (zLeap c (z.1 w.toNatClampNeg) (zR c w.toNatClampNeg p z)))), (6, .int (zb (zChg (z.1 w.toNatClampNeg) (zR c w.toNatClampNeg p z)))), (5, .int (zR c w.toNatClampNeg p z)), (3, .int (z.1 w.toNatClampNeg)), (0, .ref h), (1, .int w), (2, .int p)]) hx hb dX1_moves_113 hl (by decide) rfl (fun ls hl => ?_)
    refine lv_iload hx hb dX1_moves_115 (lv_at hl 0 rfl) ?_
    refine lv_if_ne (tgt := 145) hx hb dX1_moves_117 (by decide) (fun c_117 => ?_) (fun c_117 => ?_)
    · refine lv_iload hx hb dX1_moves_145 (lv_at hl 0 rfl) ?_
      refine lv_istore (lv' := [(9, .int (((((zR c w.toNatClampNeg p z) - p) - (z.2.1 w.toNatClampNeg)) * c.2.2.1) / 100)), (8, .int (((zR c w.toNatClampNeg p z) - p) - (z.2.1 w.toNatClampNeg))), (7, .int (zb (zLeap c (z.1 w.toNatClampNeg) (zR c w.toNatClampNeg p z)))), (6, .int (zb (zChg (z.1 w.toNatClampNeg) (zR c w.toNatClampNeg p z)))), (5, .int (zR c w.toNatClampNeg p z)), (3, .int (z.1 w.toNatClampNeg)), (0, .ref h), (1, .int w), (2, .int p)]) hx hb dX1_moves_147 hl (by decide) rfl (fun ls hl => ?_)
      have hl : lv_has ls 10 [(9, .int (zBy c.2.2.1 (((zR c w.toNatClampNeg p z) - p) - (z.2.1 w.toNatClampNeg)))), (8, .int (((zR c w.toNatClampNeg p z) - p) - (z.2.1 w.toNatClampNeg))), (7, .int (zb (zLeap c (z.1 w.toNatClampNeg) (zR c w.toNatClampNeg p z)))), (6, .int (zb (zChg (z.1 w.toNatClampNeg) (zR c w.toNatClampNeg p z)))), (5, .int (zR c w.toNatClampNeg p z)), (3, .int (z.1 w.toNatClampNeg)), (0, .ref h), (1, .int w), (2, .int p)] := by
        rw [show ((zBy c.2.2.1 (((zR c w.toNatClampNeg p z) - p) - (z.2.1 w.toNatClampNeg))) : Int32) = (((((zR c w.toNatClampNeg p z) - p) - (z.2.1 w.toNatClampNeg)) * c.2.2.1) / 100) from (zBy_1 c_117)]
        exact hl
      exact j149 ls (lv_sub hl [0, 2, 3, 4, 5, 6, 7, 8] rfl)
    · refine lv_iload hx hb dX1_moves_120 (lv_at hl 1 rfl) ?_
      refine lv_if_eq (tgt := 145) hx hb dX1_moves_122 (by decide) (fun c_122 => ?_) (fun c_122 => ?_)
      · refine lv_iload hx hb dX1_moves_145 (lv_at hl 0 rfl) ?_
        refine lv_istore (lv' := [(9, .int (((((zR c w.toNatClampNeg p z) - p) - (z.2.1 w.toNatClampNeg)) * c.2.2.1) / 100)), (8, .int (((zR c w.toNatClampNeg p z) - p) - (z.2.1 w.toNatClampNeg))), (7, .int (zb (zLeap c (z.1 w.toNatClampNeg) (zR c w.toNatClampNeg p z)))), (6, .int (zb (zChg (z.1 w.toNatClampNeg) (zR c w.toNatClampNeg p z)))), (5, .int (zR c w.toNatClampNeg p z)), (3, .int (z.1 w.toNatClampNeg)), (0, .ref h), (1, .int w), (2, .int p)]) hx hb dX1_moves_147 hl (by decide) rfl (fun ls hl => ?_)
        have hl : lv_has ls 10 [(9, .int (zBy c.2.2.1 (((zR c w.toNatClampNeg p z) - p) - (z.2.1 w.toNatClampNeg)))), (8, .int (((zR c w.toNatClampNeg p z) - p) - (z.2.1 w.toNatClampNeg))), (7, .int (zb (zLeap c (z.1 w.toNatClampNeg) (zR c w.toNatClampNeg p z)))), (6, .int (zb (zChg (z.1 w.toNatClampNeg) (zR c w.toNatClampNeg p z)))), (5, .int (zR c w.toNatClampNeg p z)), (3, .int (z.1 w.toNatClampNeg)), (0, .ref h), (1, .int w), (2, .int p)] := by
          rw [show ((zBy c.2.2.1 (((zR c w.toNatClampNeg p z) - p) - (z.2.1 w.toNatClampNeg))) : Int32) = (((((zR c w.toNatClampNeg p z) - p) - (z.2.1 w.toNatClampNeg)) * c.2.2.1) / 100) from (zBy_2 c_117 c_122)]
          exact hl
        exact j149 ls (lv_sub hl [0, 2, 3, 4, 5, 6, 7, 8] rfl)
      · refine lv_aload_n hx hb dX1_moves_125 rfl (lv_at hl 6 rfl) ?_
        refine va_get (D := D) (ci := 1) (v := .int c.2.2.1) (C := RX1) (T := TX1) (N := 13) hx hb hts hiw hown hK hP 0 rfl rfl 3 (by decide) (hts (.fieldLink RX1 7 "TunedWrensModel" "speed" "I") (by decide +kernel)) (fun _ h9 => h9) rfl dX1_moves_126 ?_
        refine lv_if_le (tgt := 145) hx hb dX1_moves_129 (by decide) (fun c_129 => ?_) (fun c_129 => ?_)
        · refine lv_iload hx hb dX1_moves_145 (lv_at hl 0 rfl) ?_
          refine lv_istore (lv' := [(9, .int (((((zR c w.toNatClampNeg p z) - p) - (z.2.1 w.toNatClampNeg)) * c.2.2.1) / 100)), (8, .int (((zR c w.toNatClampNeg p z) - p) - (z.2.1 w.toNatClampNeg))), (7, .int (zb (zLeap c (z.1 w.toNatClampNeg) (zR c w.toNatClampNeg p z)))), (6, .int (zb (zChg (z.1 w.toNatClampNeg) (zR c w.toNatClampNeg p z)))), (5, .int (zR c w.toNatClampNeg p z)), (3, .int (z.1 w.toNatClampNeg)), (0, .ref h), (1, .int w), (2, .int p)]) hx hb dX1_moves_147 hl (by decide) rfl (fun ls hl => ?_)
          have hl : lv_has ls 10 [(9, .int (zBy c.2.2.1 (((zR c w.toNatClampNeg p z) - p) - (z.2.1 w.toNatClampNeg)))), (8, .int (((zR c w.toNatClampNeg p z) - p) - (z.2.1 w.toNatClampNeg))), (7, .int (zb (zLeap c (z.1 w.toNatClampNeg) (zR c w.toNatClampNeg p z)))), (6, .int (zb (zChg (z.1 w.toNatClampNeg) (zR c w.toNatClampNeg p z)))), (5, .int (zR c w.toNatClampNeg p z)), (3, .int (z.1 w.toNatClampNeg)), (0, .ref h), (1, .int w), (2, .int p)] := by
            rw [show ((zBy c.2.2.1 (((zR c w.toNatClampNeg p z) - p) - (z.2.1 w.toNatClampNeg))) : Int32) = (((((zR c w.toNatClampNeg p z) - p) - (z.2.1 w.toNatClampNeg)) * c.2.2.1) / 100) from (zBy_3 hc.2.2 c_129)]
            exact hl
          exact j149 ls (lv_sub hl [0, 2, 3, 4, 5, 6, 7, 8] rfl)
        · refine lv_iload hx hb dX1_moves_132 (lv_at hl 1 rfl) ?_
          refine lv_if_le (tgt := 141) hx hb dX1_moves_134 (by decide) (fun c_134 => ?_) (fun c_134 => ?_)
          · refine lv_iconst (v := (-1)) hx hb dX1_moves_141 (by decide) ?_
            refine lv_goto (tgt := 147) hx hb dX1_moves_142 (by decide) ?_
            refine lv_istore (lv' := [(9, .int (-1)), (8, .int (((zR c w.toNatClampNeg p z) - p) - (z.2.1 w.toNatClampNeg))), (7, .int (zb (zLeap c (z.1 w.toNatClampNeg) (zR c w.toNatClampNeg p z)))), (6, .int (zb (zChg (z.1 w.toNatClampNeg) (zR c w.toNatClampNeg p z)))), (5, .int (zR c w.toNatClampNeg p z)), (3, .int (z.1 w.toNatClampNeg)), (0, .ref h), (1, .int w), (2, .int p)]) hx hb dX1_moves_147 hl (by decide) rfl (fun ls hl => ?_)
            have hl : lv_has ls 10 [(9, .int (zBy c.2.2.1 (((zR c w.toNatClampNeg p z) - p) - (z.2.1 w.toNatClampNeg)))), (8, .int (((zR c w.toNatClampNeg p z) - p) - (z.2.1 w.toNatClampNeg))), (7, .int (zb (zLeap c (z.1 w.toNatClampNeg) (zR c w.toNatClampNeg p z)))), (6, .int (zb (zChg (z.1 w.toNatClampNeg) (zR c w.toNatClampNeg p z)))), (5, .int (zR c w.toNatClampNeg p z)), (3, .int (z.1 w.toNatClampNeg)), (0, .ref h), (1, .int w), (2, .int p)] := by
              rw [show ((zBy c.2.2.1 (((zR c w.toNatClampNeg p z) - p) - (z.2.1 w.toNatClampNeg))) : Int32) = (-1) from (zBy_4 c_117 c_129 c_122 c_134)]
              exact hl
            exact j149 ls (lv_sub hl [0, 2, 3, 4, 5, 6, 7, 8] rfl)
          · refine lv_iconst (v := 1) hx hb dX1_moves_137 (by decide) ?_
            refine lv_goto (tgt := 147) hx hb dX1_moves_138 (by decide) ?_
            refine lv_istore (lv' := [(9, .int 1), (8, .int (((zR c w.toNatClampNeg p z) - p) - (z.2.1 w.toNatClampNeg))), (7, .int (zb (zLeap c (z.1 w.toNatClampNeg) (zR c w.toNatClampNeg p z)))), (6, .int (zb (zChg (z.1 w.toNatClampNeg) (zR c w.toNatClampNeg p z)))), (5, .int (zR c w.toNatClampNeg p z)), (3, .int (z.1 w.toNatClampNeg)), (0, .ref h), (1, .int w), (2, .int p)]) hx hb dX1_moves_147 hl (by decide) rfl (fun ls hl => ?_)
            have hl : lv_has ls 10 [(9, .int (zBy c.2.2.1 (((zR c w.toNatClampNeg p z) - p) - (z.2.1 w.toNatClampNeg)))), (8, .int (((zR c w.toNatClampNeg p z) - p) - (z.2.1 w.toNatClampNeg))), (7, .int (zb (zLeap c (z.1 w.toNatClampNeg) (zR c w.toNatClampNeg p z)))), (6, .int (zb (zChg (z.1 w.toNatClampNeg) (zR c w.toNatClampNeg p z)))), (5, .int (zR c w.toNatClampNeg p z)), (3, .int (z.1 w.toNatClampNeg)), (0, .ref h), (1, .int w), (2, .int p)] := by
              rw [show ((zBy c.2.2.1 (((zR c w.toNatClampNeg p z) - p) - (z.2.1 w.toNatClampNeg))) : Int32) = 1 from (zBy_5 c_117 c_129 c_134)]
              exact hl
            exact j149 ls (lv_sub hl [0, 2, 3, 4, 5, 6, 7, 8] rfl)
  have j47 : ∀ (ls : Array Slot), lv_has ls 10 [(5, .int (zR c w.toNatClampNeg p z)), (3, .int (z.1 w.toNatClampNeg)), (0, .ref h), (1, .int w), (2, .int p)] → W pr l e (headSpec wsX1_moves ({ frames := 5, cells := 0, slots := 0, locals := 112 })).room s m ([.ref h, .int w, .int p] : List Value).toArray below meth cd s.heap [] 0 0 (MQ below (va_Qi (fun (rv : Int32) (_ : Unit) => rv = zMv c w.toNatClampNeg p z) (fun _ t => zPost D N0 (wM h d cA (th) ((upd z.1 w.toNatClampNeg (zR c w.toNatClampNeg p z)), (upd z.2.1 w.toNatClampNeg (zG c w.toNatClampNeg p z)), z.2.2.1, z.2.2.2.1, z.2.2.2.2.1, z.2.2.2.2.2.1, z.2.2.2.2.2.2) c ++ E) t) (zA N0)) ([.ref h, .int w, .int p] : List Value).toArray s 0 0 (zA N0)) (F0 m 47 ls []) := by
    intro ls hl
    refine lv_iload_n hx hb dX1_moves_47 rfl (lv_at hl 1 rfl) ?_
    refine lv_if_lt (tgt := 61) hx hb dX1_moves_48 (by decide) (fun c_48 => ?_) (fun c_48 => ?_)
    · refine lv_iconst (v := 0) hx hb dX1_moves_61 (by decide) ?_
      refine lv_istore (lv' := [(6, .int 0), (5, .int (zR c w.toNatClampNeg p z)), (3, .int (z.1 w.toNatClampNeg)), (0, .ref h), (1, .int w), (2, .int p)]) hx hb dX1_moves_62 hl (by decide) rfl (fun ls hl => ?_)
      refine lv_iload hx hb dX1_moves_64 (lv_at hl 0 rfl) ?_
      refine lv_if_eq (tgt := 87) hx hb dX1_moves_66 (by decide) (fun _ => ?_) (fun c_66 => absurd c_66 (by decide))
      refine lv_iconst (v := 0) hx hb dX1_moves_87 (by decide) ?_
      refine lv_istore (lv' := [(7, .int 0), (6, .int 0), (5, .int (zR c w.toNatClampNeg p z)), (3, .int (z.1 w.toNatClampNeg)), (0, .ref h), (1, .int w), (2, .int p)]) hx hb dX1_moves_88 hl (by decide) rfl (fun ls hl => ?_)
      have hl : lv_has ls 10 [(7, .int (zb (zLeap c (z.1 w.toNatClampNeg) (zR c w.toNatClampNeg p z)))), (6, .int (zb (zChg (z.1 w.toNatClampNeg) (zR c w.toNatClampNeg p z)))), (5, .int (zR c w.toNatClampNeg p z)), (3, .int (z.1 w.toNatClampNeg)), (0, .ref h), (1, .int w), (2, .int p)] := by
        rw [show ((zb (zLeap c (z.1 w.toNatClampNeg) (zR c w.toNatClampNeg p z))) : Int32) = 0 from (zb_0 (fun q => q.1.1 (okZ_n hz c_48))), show ((zb (zChg (z.1 w.toNatClampNeg) (zR c w.toNatClampNeg p z))) : Int32) = 0 from (zb_0 (fun q => q.1 (okZ_n hz c_48)))]
        exact hl
      exact j90 ls (lv_sub hl [0, 1, 2, 3, 4, 5, 6] rfl)
    · refine lv_iload hx hb dX1_moves_51 (lv_at hl 0 rfl) ?_
      refine lv_iload_n hx hb dX1_moves_53 rfl (lv_at hl 1 rfl) ?_
      refine lv_icmp_eq (tgt := 61) hx hb dX1_moves_54 (by decide) (fun c_54 => ?_) (fun c_54 => ?_)
      · refine lv_iconst (v := 0) hx hb dX1_moves_61 (by decide) ?_
        refine lv_istore (lv' := [(6, .int 0), (5, .int (zR c w.toNatClampNeg p z)), (3, .int (z.1 w.toNatClampNeg)), (0, .ref h), (1, .int w), (2, .int p)]) hx hb dX1_moves_62 hl (by decide) rfl (fun ls hl => ?_)
        refine lv_iload hx hb dX1_moves_64 (lv_at hl 0 rfl) ?_
        refine lv_if_eq (tgt := 87) hx hb dX1_moves_66 (by decide) (fun _ => ?_) (fun c_66 => absurd c_66 (by decide))
        refine lv_iconst (v := 0) hx hb dX1_moves_87 (by decide) ?_
        refine lv_istore (lv' := [(7, .int 0), (6, .int 0), (5, .int (zR c w.toNatClampNeg p z)), (3, .int (z.1 w.toNatClampNeg)), (0, .ref h), (1, .int w), (2, .int p)]) hx hb dX1_moves_88 hl (by decide) rfl (fun ls hl => ?_)
        have hl : lv_has ls 10 [(7, .int (zb (zLeap c (z.1 w.toNatClampNeg) (zR c w.toNatClampNeg p z)))), (6, .int (zb (zChg (z.1 w.toNatClampNeg) (zR c w.toNatClampNeg p z)))), (5, .int (zR c w.toNatClampNeg p z)), (3, .int (z.1 w.toNatClampNeg)), (0, .ref h), (1, .int w), (2, .int p)] := by
          rw [show ((zb (zLeap c (z.1 w.toNatClampNeg) (zR c w.toNatClampNeg p z))) : Int32) = 0 from (zb_0 (fun q => q.1.2 c_54.symm)), show ((zb (zChg (z.1 w.toNatClampNeg) (zR c w.toNatClampNeg p z))) : Int32) = 0 from (zb_0 (fun q => q.2 c_54.symm))]
          exact hl
        exact j90 ls (lv_sub hl [0, 1, 2, 3, 4, 5, 6] rfl)
      · refine lv_iconst (v := 1) hx hb dX1_moves_57 (by decide) ?_
        refine lv_goto (tgt := 62) hx hb dX1_moves_58 (by decide) ?_
        refine lv_istore (lv' := [(6, .int 1), (5, .int (zR c w.toNatClampNeg p z)), (3, .int (z.1 w.toNatClampNeg)), (0, .ref h), (1, .int w), (2, .int p)]) hx hb dX1_moves_62 hl (by decide) rfl (fun ls hl => ?_)
        refine lv_iload hx hb dX1_moves_64 (lv_at hl 0 rfl) ?_
        refine lv_if_eq (tgt := 87) hx hb dX1_moves_66 (by decide) (fun c_66 => absurd c_66 (by decide)) (fun _ => ?_)
        refine lv_iload hx hb dX1_moves_69 (lv_at hl 1 rfl) ?_
        refine lv_iload_n hx hb dX1_moves_71 rfl (lv_at hl 2 rfl) ?_
        refine lv_isub hx hb dX1_moves_72 ?_
        refine vp_callSi ((va_runS (As := [.int ((zR c w.toNatClampNeg p z) - (z.1 w.toNatClampNeg))]) (rest := []) ⟨hx, hb, hml, hown, hts⟩ (c_X1_size l ((zR c w.toNatClampNeg p z) - (z.1 w.toNatClampNeg))) (va_cwS 1 hts gX1_moves_X1_size rfl rfl rfl (by decide +kernel) ⟨Nat.le_of_ble_eq_true rfl, Nat.le_of_ble_eq_true rfl⟩) ⟨zT.blind, zT.call⟩ rfl rfl hl.1 rfl (lv_room (Nat.le_of_ble_eq_true rfl)) dX1_moves_73 ⟨Nat.zero_le _, Nat.zero_le _⟩).run) (fun r_73 h_73 => ?_)
        have h_73 : r_73 = (zAbs ((zR c w.toNatClampNeg p z) - (z.1 w.toNatClampNeg))) := h_73
        subst h_73
        refine lv_aload_n hx hb dX1_moves_76 rfl (lv_at hl 3 rfl) ?_
        refine va_get (D := D) (ci := 1) (v := .int c.2.2.2.2) (C := RX1) (T := TX1) (N := 13) hx hb hts hiw hown hK hP 0 rfl rfl 5 (by decide) (hts (.fieldLink RX1 16 "TunedWrensModel" "glide" "I") (by decide +kernel)) (fun _ h9 => h9) rfl dX1_moves_77 ?_
        refine lv_icmp_le (tgt := 87) hx hb dX1_moves_80 (by decide) (fun c_80 => ?_) (fun c_80 => ?_)
        · refine lv_iconst (v := 0) hx hb dX1_moves_87 (by decide) ?_
          refine lv_istore (lv' := [(7, .int 0), (6, .int 1), (5, .int (zR c w.toNatClampNeg p z)), (3, .int (z.1 w.toNatClampNeg)), (0, .ref h), (1, .int w), (2, .int p)]) hx hb dX1_moves_88 hl (by decide) rfl (fun ls hl => ?_)
          have hl : lv_has ls 10 [(7, .int (zb (zLeap c (z.1 w.toNatClampNeg) (zR c w.toNatClampNeg p z)))), (6, .int (zb (zChg (z.1 w.toNatClampNeg) (zR c w.toNatClampNeg p z)))), (5, .int (zR c w.toNatClampNeg p z)), (3, .int (z.1 w.toNatClampNeg)), (0, .ref h), (1, .int w), (2, .int p)] := by
            rw [show ((zb (zLeap c (z.1 w.toNatClampNeg) (zR c w.toNatClampNeg p z))) : Int32) = 0 from (zb_0 (fun q => Int32.not_lt.mpr c_80 q.2)), show ((zb (zChg (z.1 w.toNatClampNeg) (zR c w.toNatClampNeg p z))) : Int32) = 1 from (zb_1 ⟨okZ_p c_48, fun q => c_54 q.symm⟩)]
            exact hl
          exact j90 ls (lv_sub hl [0, 1, 2, 3, 4, 5, 6] rfl)
        · refine lv_iconst (v := 1) hx hb dX1_moves_83 (by decide) ?_
          refine lv_goto (tgt := 88) hx hb dX1_moves_84 (by decide) ?_
          refine lv_istore (lv' := [(7, .int 1), (6, .int 1), (5, .int (zR c w.toNatClampNeg p z)), (3, .int (z.1 w.toNatClampNeg)), (0, .ref h), (1, .int w), (2, .int p)]) hx hb dX1_moves_88 hl (by decide) rfl (fun ls hl => ?_)
          have hl : lv_has ls 10 [(7, .int (zb (zLeap c (z.1 w.toNatClampNeg) (zR c w.toNatClampNeg p z)))), (6, .int (zb (zChg (z.1 w.toNatClampNeg) (zR c w.toNatClampNeg p z)))), (5, .int (zR c w.toNatClampNeg p z)), (3, .int (z.1 w.toNatClampNeg)), (0, .ref h), (1, .int w), (2, .int p)] := by
            rw [show ((zb (zLeap c (z.1 w.toNatClampNeg) (zR c w.toNatClampNeg p z))) : Int32) = 1 from (zb_1 ⟨⟨okZ_p c_48, fun q => c_54 q.symm⟩, Int32.not_le.mp c_80⟩), show ((zb (zChg (z.1 w.toNatClampNeg) (zR c w.toNatClampNeg p z))) : Int32) = 1 from (zb_1 ⟨okZ_p c_48, fun q => c_54 q.symm⟩)]
            exact hl
          exact j90 ls (lv_sub hl [0, 1, 2, 3, 4, 5, 6] rfl)
  refine lv_aload_n hx hb dX1_moves_0 rfl (lv_at hl 0 rfl) ?_
  refine va_get (D := D) (ci := 1) (v := .ref (d 0)) (C := RX1) (T := TX1) (N := 13) hx hb hts hiw hown hK hP 0 rfl rfl 6 (by decide) (hts (.fieldLink RX1 19 "TunedWrensModel" "rungs" "[I") (by decide +kernel)) (fun _ h9 => h9) rfl dX1_moves_1 ?_
  refine lv_iload_n hx hb dX1_moves_4 rfl (lv_at hl 1 rfl) ?_
  refine va_iald hx hb hK hP 1 0 rfl rfl (zw_in hw) dX1_moves_5 ?_
  refine lv_istore_n (lv' := [(3, .int (z.1 w.toNatClampNeg)), (0, .ref h), (1, .int w), (2, .int p)]) hx hb dX1_moves_6 rfl hl (by decide) rfl (fun ls hl => ?_)
  refine lv_iload_n hx hb dX1_moves_7 rfl (lv_at hl 0 rfl) ?_
  refine lv_if_lt (tgt := 28) hx hb dX1_moves_8 (by decide) (fun c_8 => ?_) (fun c_8 => ?_)
  · refine lv_iconst (v := 0) hx hb dX1_moves_28 (by decide) ?_
    refine lv_istore (lv' := [(4, .int 0), (3, .int (z.1 w.toNatClampNeg)), (0, .ref h), (1, .int w), (2, .int p)]) hx hb dX1_moves_29 hl (by decide) rfl (fun ls hl => ?_)
    refine lv_iload hx hb dX1_moves_31 (lv_at hl 0 rfl) ?_
    refine lv_if_eq (tgt := 40) hx hb dX1_moves_33 (by decide) (fun _ => ?_) (fun c_33 => absurd c_33 (by decide))
    refine lv_aload_n hx hb dX1_moves_40 rfl (lv_at hl 2 rfl) ?_
    refine lv_iload_n hx hb dX1_moves_41 rfl (lv_at hl 4 rfl) ?_
    refine vp_callSi ((va_runV (As := [.int p]) (rest := []) ⟨hx, hb, hml, hown, hts⟩ (c_X1_near l D N0 cA cL E h d (th) z c p hc) (cwV 1 hts gX1_moves_X1_near rfl rfl rfl (by decide +kernel) ⟨Nat.le_of_ble_eq_true rfl, Nat.le_of_ble_eq_true rfl⟩) ⟨zPre.blind, va_recv hK hP (ci := 1) (q0 := 0) rfl rfl, zPre.call hN hP hD hK hE hS⟩ rfl rfl hl.1 rfl (lv_room (Nat.le_of_ble_eq_true rfl)) dX1_moves_42 ⟨Nat.zero_le _, Nat.zero_le _⟩).run) (fun r_42 h_42 => ?_)
    have h_42 : r_42 = (zNear c p) := h_42
    subst h_42
    rw [show ((zNear c p) : Int32) = (zR c w.toNatClampNeg p z) from (zNext_n (fun q => q.1 (okZ_n hz c_8)))]
    refine lv_istore (lv' := [(5, .int (zR c w.toNatClampNeg p z)), (4, .int 0), (3, .int (z.1 w.toNatClampNeg)), (0, .ref h), (1, .int w), (2, .int p)]) hx hb dX1_moves_45 hl (by decide) rfl (fun ls hl => ?_)
    exact j47 ls (lv_sub hl [0, 2, 3, 4, 5] rfl)
  · refine lv_iload_n hx hb dX1_moves_11 rfl (lv_at hl 3 rfl) ?_
    refine lv_iload_n hx hb dX1_moves_12 rfl (lv_at hl 0 rfl) ?_
    refine lv_isub hx hb dX1_moves_13 ?_
    refine vp_callSi ((va_runS (As := [.int (p - (z.1 w.toNatClampNeg))]) (rest := []) ⟨hx, hb, hml, hown, hts⟩ (c_X1_size l (p - (z.1 w.toNatClampNeg))) (va_cwS 1 hts gX1_moves_X1_size rfl rfl rfl (by decide +kernel) ⟨Nat.le_of_ble_eq_true rfl, Nat.le_of_ble_eq_true rfl⟩) ⟨zT.blind, zT.call⟩ rfl rfl hl.1 rfl (lv_room (Nat.le_of_ble_eq_true rfl)) dX1_moves_14 ⟨Nat.zero_le _, Nat.zero_le _⟩).run) (fun r_14 h_14 => ?_)
    have h_14 : r_14 = (zAbs (p - (z.1 w.toNatClampNeg))) := h_14
    subst h_14
    refine lv_aload_n hx hb dX1_moves_17 rfl (lv_at hl 1 rfl) ?_
    refine va_get (D := D) (ci := 1) (v := .int c.2.2.2.1) (C := RX1) (T := TX1) (N := 13) hx hb hts hiw hown hK hP 0 rfl rfl 4 (by decide) (hts (.fieldLink RX1 13 "TunedWrensModel" "leash" "I") (by decide +kernel)) (fun _ h9 => h9) rfl dX1_moves_18 ?_
    refine lv_icmp_gt (tgt := 28) hx hb dX1_moves_21 (by decide) (fun c_21 => ?_) (fun c_21 => ?_)
    · refine lv_iconst (v := 0) hx hb dX1_moves_28 (by decide) ?_
      refine lv_istore (lv' := [(4, .int 0), (3, .int (z.1 w.toNatClampNeg)), (0, .ref h), (1, .int w), (2, .int p)]) hx hb dX1_moves_29 hl (by decide) rfl (fun ls hl => ?_)
      refine lv_iload hx hb dX1_moves_31 (lv_at hl 0 rfl) ?_
      refine lv_if_eq (tgt := 40) hx hb dX1_moves_33 (by decide) (fun _ => ?_) (fun c_33 => absurd c_33 (by decide))
      refine lv_aload_n hx hb dX1_moves_40 rfl (lv_at hl 2 rfl) ?_
      refine lv_iload_n hx hb dX1_moves_41 rfl (lv_at hl 4 rfl) ?_
      refine vp_callSi ((va_runV (As := [.int p]) (rest := []) ⟨hx, hb, hml, hown, hts⟩ (c_X1_near l D N0 cA cL E h d (th) z c p hc) (cwV 1 hts gX1_moves_X1_near rfl rfl rfl (by decide +kernel) ⟨Nat.le_of_ble_eq_true rfl, Nat.le_of_ble_eq_true rfl⟩) ⟨zPre.blind, va_recv hK hP (ci := 1) (q0 := 0) rfl rfl, zPre.call hN hP hD hK hE hS⟩ rfl rfl hl.1 rfl (lv_room (Nat.le_of_ble_eq_true rfl)) dX1_moves_42 ⟨Nat.zero_le _, Nat.zero_le _⟩).run) (fun r_42 h_42 => ?_)
      have h_42 : r_42 = (zNear c p) := h_42
      subst h_42
      rw [show ((zNear c p) : Int32) = (zR c w.toNatClampNeg p z) from (zNext_n (fun q => Int32.not_le.mpr c_21 q.2))]
      refine lv_istore (lv' := [(5, .int (zR c w.toNatClampNeg p z)), (4, .int 0), (3, .int (z.1 w.toNatClampNeg)), (0, .ref h), (1, .int w), (2, .int p)]) hx hb dX1_moves_45 hl (by decide) rfl (fun ls hl => ?_)
      exact j47 ls (lv_sub hl [0, 2, 3, 4, 5] rfl)
    · refine lv_iconst (v := 1) hx hb dX1_moves_24 (by decide) ?_
      refine lv_goto (tgt := 29) hx hb dX1_moves_25 (by decide) ?_
      refine lv_istore (lv' := [(4, .int 1), (3, .int (z.1 w.toNatClampNeg)), (0, .ref h), (1, .int w), (2, .int p)]) hx hb dX1_moves_29 hl (by decide) rfl (fun ls hl => ?_)
      refine lv_iload hx hb dX1_moves_31 (lv_at hl 0 rfl) ?_
      refine lv_if_eq (tgt := 40) hx hb dX1_moves_33 (by decide) (fun c_33 => absurd c_33 (by decide)) (fun _ => ?_)
      refine lv_iload_n hx hb dX1_moves_36 rfl (lv_at hl 1 rfl) ?_
      rw [show ((z.1 w.toNatClampNeg) : Int32) = (zR c w.toNatClampNeg p z) from (zNext_k ⟨okZ_p c_8, Int32.not_lt.mp c_21⟩)]
      refine lv_goto (tgt := 45) hx hb dX1_moves_37 (by decide) ?_
      refine lv_istore (lv' := [(5, .int (zR c w.toNatClampNeg p z)), (4, .int 1), (3, .int (z.1 w.toNatClampNeg)), (0, .ref h), (1, .int w), (2, .int p)]) hx hb dX1_moves_45 hl (by decide) rfl (fun ls hl => ?_)
      exact j47 ls (lv_sub hl [0, 2, 3, 4, 5] rfl)

set_option maxHeartbeats 4000000 in
set_option maxRecDepth 100000 in
theorem c_X1_sings (l : Launch) (D : va_G) (N0 : Nat) (cA cL : ClassId) (E : va_W) (h : Nat) (d : Nat → Nat) (th : Int32) (z : S7) (c : C5) (w : Int32) (p : Int32) (hc : okC c) (hw : zw w) (hp : zp p) (hz : okZ z) : Met l yX1_sings wsX1_sings ({ frames := 6, cells := 0, slots := 0, locals := 141 }) (va_Pc [.ref h, .int w, .int p] (zPre D N0 cA cL (wM h d cA (th) z c ++ E))) (va_Qi (fun (rv : Int32) (_ : Unit) => rv = zOut c w.toNatClampNeg p z) (fun _ t => zPost D N0 (wM h d cA (th) (zSg c w.toNatClampNeg p z) c ++ E) t) (zA N0)) 0 0 (zA N0) := by
  refine Met.ofW (cc := cX1_sings) (maxL := 5) (ret := (some .int)) (by decide) rfl ?_
  intro pr e s m ag below meth cd s₁ B hml hv
  obtain ⟨rfl, hN, hP, hD, hK, hE⟩ := hv
  have hx := B.exec
  have hb := B.bytes
  have hr := B.returns
  have hts := atoms_spec (ws := wsX1_sings) B.pre
  have hown : s.vm.findClass RX1 = some m.cls := findClass_of_methodNamed B.named
  have hlocks := B.notSynchronized
  have hS : va_S (zA N0) s.heap s.heap [] := va_S.rf
  have hiw : ∀ w ∈ u_ws RX1 TX1 13, w ∈ wsX1_sings := by decide +kernel
  have hl := lv_entry ([.ref h, .int w, .int p]) (n := 5) (Nat.le_of_ble_eq_true rfl)
  rw [lg_entry_eq]
  generalize (lg_sl ([.ref h, .int w, .int p]) ++ List.replicate (5 - (lg_sl ([.ref h, .int w, .int p])).length) Slot.unset).toArray = ls at hl ⊢
  have hl : lv_has ls 5 [(0, .ref h), (1, .int w), (2, .int p)] := hl
  have j87 : ∀ (H : Heap) (locs : List Loc), va_P D vwCl (wM h d cA (th) ((upd z.1 w.toNatClampNeg (zR c w.toNatClampNeg p z)), (upd z.2.1 w.toNatClampNeg (zG c w.toNatClampNeg p z)), (upd z.2.2.1 w.toNatClampNeg (z.2.2.1 w.toNatClampNeg + 1)), (zB (zChg (z.1 w.toNatClampNeg) (zR c w.toNatClampNeg p z)) z.2.2.2.1 w.toNatClampNeg), (zB (zLeap c (z.1 w.toNatClampNeg) (zR c w.toNatClampNeg p z)) z.2.2.2.2.1 w.toNatClampNeg), (zB (¬ zStep c (zOut c w.toNatClampNeg p z) = -1) z.2.2.2.2.2.1 w.toNatClampNeg), z.2.2.2.2.2.2) c ++ E) H → va_D (zA N0) (wM h d cA (th) ((upd z.1 w.toNatClampNeg (zR c w.toNatClampNeg p z)), (upd z.2.1 w.toNatClampNeg (zG c w.toNatClampNeg p z)), (upd z.2.2.1 w.toNatClampNeg (z.2.2.1 w.toNatClampNeg + 1)), (zB (zChg (z.1 w.toNatClampNeg) (zR c w.toNatClampNeg p z)) z.2.2.2.1 w.toNatClampNeg), (zB (zLeap c (z.1 w.toNatClampNeg) (zR c w.toNatClampNeg p z)) z.2.2.2.2.1 w.toNatClampNeg), (zB (¬ zStep c (zOut c w.toNatClampNeg p z) = -1) z.2.2.2.2.2.1 w.toNatClampNeg), z.2.2.2.2.2.2) c ++ E) → va_S (zA N0) s.heap H locs → ∀ (ls : Array Slot), lv_has ls 5 [(4, .int (zOut c w.toNatClampNeg p z)), (3, .int (zMv c w.toNatClampNeg p z)), (0, .ref h), (1, .int w), (2, .int p)] → W pr l e (headSpec wsX1_sings ({ frames := 6, cells := 0, slots := 0, locals := 141 })).room s m ([.ref h, .int w, .int p] : List Value).toArray below meth cd H locs 0 0 (MQ below (va_Qi (fun (rv : Int32) (_ : Unit) => rv = zOut c w.toNatClampNeg p z) (fun _ t => zPost D N0 (wM h d cA (th) (zSg c w.toNatClampNeg p z) c ++ E) t) (zA N0)) ([.ref h, .int w, .int p] : List Value).toArray s 0 0 (zA N0)) (F0 m 87 ls []) := by
    intro H locs hP hD hS ls hl
    refine lv_aload_n hx hb dX1_sings_87 rfl (lv_at hl 2 rfl) ?_
    refine va_get (D := D) (ci := 1) (v := .ref (d 6)) (C := RX1) (T := TX1) (N := 13) hx hb hts hiw hown hK hP 0 rfl rfl 12 (by decide) (hts (.fieldLink RX1 38 "TunedWrensModel" "semitones" "[I") (by decide +kernel)) (fun _ h9 => h9) rfl dX1_sings_88 ?_
    refine lv_iload_n hx hb dX1_sings_91 rfl (lv_at hl 4 rfl) ?_
    refine lv_bipush (v := 50) hx hb dX1_sings_92 (by decide) ?_
    refine lv_iadd hx hb dX1_sings_94 ?_
    refine lv_bipush (v := 100) hx hb dX1_sings_95 (by decide) ?_
    refine lv_idiv hx hb dX1_sings_97 (by decide) ?_
    refine lv_bipush (v := 12) hx hb dX1_sings_98 (by decide) ?_
    refine lv_irem hx hb dX1_sings_100 (by decide) ?_
    rw [show ((((p + 50) / 100) - ((p + 50) / 100) / 12 * 12) : Int32) = (nI (zSem p)) from (zSem_M hp)]
    refine lv_dup2_11 hx hb dX1_sings_101 rfl rfl ?_
    refine va_iald hx hb hK hP 7 0 rfl rfl (vp_in_nI (zSem_lt p) (by decide)) dX1_sings_102 ?_
    refine lv_iconst (v := 1) hx hb dX1_sings_103 (by decide) ?_
    refine lv_iadd hx hb dX1_sings_104 ?_
    refine va_iast hx hb hK hP hD hS 7 0 rfl rfl (vp_in_nI (zSem_lt p) (by decide)) dX1_sings_105 (fun H locs hP hD hS => ?_)
    have hP : va_P D vwCl (wM h d cA (th) ((upd z.1 w.toNatClampNeg (zR c w.toNatClampNeg p z)), (upd z.2.1 w.toNatClampNeg (zG c w.toNatClampNeg p z)), (upd z.2.2.1 w.toNatClampNeg (z.2.2.1 w.toNatClampNeg + 1)), (zB (zChg (z.1 w.toNatClampNeg) (zR c w.toNatClampNeg p z)) z.2.2.2.1 w.toNatClampNeg), (zB (zLeap c (z.1 w.toNatClampNeg) (zR c w.toNatClampNeg p z)) z.2.2.2.2.1 w.toNatClampNeg), (zB (¬ zStep c (zOut c w.toNatClampNeg p z) = -1) z.2.2.2.2.2.1 w.toNatClampNeg), (upd z.2.2.2.2.2.2 (nI (zSem p)).toNatClampNeg ((z.2.2.2.2.2.2 (nI (zSem p)).toNatClampNeg) + 1))) c ++ E) H := hP
    have hD : va_D (zA N0) (wM h d cA (th) ((upd z.1 w.toNatClampNeg (zR c w.toNatClampNeg p z)), (upd z.2.1 w.toNatClampNeg (zG c w.toNatClampNeg p z)), (upd z.2.2.1 w.toNatClampNeg (z.2.2.1 w.toNatClampNeg + 1)), (zB (zChg (z.1 w.toNatClampNeg) (zR c w.toNatClampNeg p z)) z.2.2.2.1 w.toNatClampNeg), (zB (zLeap c (z.1 w.toNatClampNeg) (zR c w.toNatClampNeg p z)) z.2.2.2.2.1 w.toNatClampNeg), (zB (¬ zStep c (zOut c w.toNatClampNeg p z) = -1) z.2.2.2.2.2.1 w.toNatClampNeg), (upd z.2.2.2.2.2.2 (nI (zSem p)).toNatClampNeg ((z.2.2.2.2.2.2 (nI (zSem p)).toNatClampNeg) + 1))) c ++ E) := hD
    refine lv_iload hx hb dX1_sings_106 (lv_at hl 0 rfl) ?_
    rw [nI_clamp (show zSem p < 2 ^ 31 by have := zSem_lt p; omega)] at hP hD
    exact W.iret (v := (zOut c w.toNatClampNeg p z)) hx hb hr (fun t ht hW => ⟨⟨_, (), rfl, rfl, ⟨by rw [ht]; exact hP, hD⟩⟩, hS.F ht⟩) hS.2.2 dX1_sings_108
  have j64 : ∀ (H : Heap) (locs : List Loc), va_P D vwCl (wM h d cA (th) ((upd z.1 w.toNatClampNeg (zR c w.toNatClampNeg p z)), (upd z.2.1 w.toNatClampNeg (zG c w.toNatClampNeg p z)), (upd z.2.2.1 w.toNatClampNeg (z.2.2.1 w.toNatClampNeg + 1)), (zB (zChg (z.1 w.toNatClampNeg) (zR c w.toNatClampNeg p z)) z.2.2.2.1 w.toNatClampNeg), (zB (zLeap c (z.1 w.toNatClampNeg) (zR c w.toNatClampNeg p z)) z.2.2.2.2.1 w.toNatClampNeg), z.2.2.2.2.2.1, z.2.2.2.2.2.2) c ++ E) H → va_D (zA N0) (wM h d cA (th) ((upd z.1 w.toNatClampNeg (zR c w.toNatClampNeg p z)), (upd z.2.1 w.toNatClampNeg (zG c w.toNatClampNeg p z)), (upd z.2.2.1 w.toNatClampNeg (z.2.2.1 w.toNatClampNeg + 1)), (zB (zChg (z.1 w.toNatClampNeg) (zR c w.toNatClampNeg p z)) z.2.2.2.1 w.toNatClampNeg), (zB (zLeap c (z.1 w.toNatClampNeg) (zR c w.toNatClampNeg p z)) z.2.2.2.2.1 w.toNatClampNeg), z.2.2.2.2.2.1, z.2.2.2.2.2.2) c ++ E) → va_S (zA N0) s.heap H locs → ∀ (ls : Array Slot), lv_has ls 5 [(4, .int (zOut c w.toNatClampNeg p z)), (3, .int (zMv c w.toNatClampNeg p z)), (0, .ref h), (1, .int w), (2, .int p)] → W pr l e (headSpec wsX1_sings ({ frames := 6, cells := 0, slots := 0, locals := 141 })).room s m ([.ref h, .int w, .int p] : List Value).toArray below meth cd H locs 0 0 (MQ below (va_Qi (fun (rv : Int32) (_ : Unit) => rv = zOut c w.toNatClampNeg p z) (fun _ t => zPost D N0 (wM h d cA (th) (zSg c w.toNatClampNeg p z) c ++ E) t) (zA N0)) ([.ref h, .int w, .int p] : List Value).toArray s 0 0 (zA N0)) (F0 m 64 ls []) := by
    intro H locs hP hD hS ls hl
    refine lv_aload_n hx hb dX1_sings_64 rfl (lv_at hl 2 rfl) ?_
    refine va_get (D := D) (ci := 1) (v := .ref (d 5)) (C := RX1) (T := TX1) (N := 13) hx hb hts hiw hown hK hP 0 rfl rfl 11 (by decide) (hts (.fieldLink RX1 35 "TunedWrensModel" "clean" "[I") (by decide +kernel)) (fun _ h9 => h9) rfl dX1_sings_65 ?_
    refine lv_iload_n hx hb dX1_sings_68 rfl (lv_at hl 3 rfl) ?_
    refine lv_dup2_11 hx hb dX1_sings_69 rfl rfl ?_
    refine va_iald hx hb hK hP 6 0 rfl rfl (zw_in hw) dX1_sings_70 ?_
    refine lv_aload_n hx hb dX1_sings_71 rfl (lv_at hl 2 rfl) ?_
    refine lv_iload hx hb dX1_sings_72 (lv_at hl 0 rfl) ?_
    refine vp_callSi ((va_runV (As := [.int (zOut c w.toNatClampNeg p z)]) (rest := [.int (z.2.2.2.2.2.1 w.toNatClampNeg), .int w, .ref (d 5)]) ⟨hx, hb, hml, hown, hts⟩ (c_X1_step l D N0 cA cL E h d (th) ((upd z.1 w.toNatClampNeg (zR c w.toNatClampNeg p z)), (upd z.2.1 w.toNatClampNeg (zG c w.toNatClampNeg p z)), (upd z.2.2.1 w.toNatClampNeg (z.2.2.1 w.toNatClampNeg + 1)), (zB (zChg (z.1 w.toNatClampNeg) (zR c w.toNatClampNeg p z)) z.2.2.2.1 w.toNatClampNeg), (zB (zLeap c (z.1 w.toNatClampNeg) (zR c w.toNatClampNeg p z)) z.2.2.2.2.1 w.toNatClampNeg), z.2.2.2.2.2.1, z.2.2.2.2.2.2) c (zOut c w.toNatClampNeg p z) hc) (cwV 1 hts gX1_sings_X1_step rfl rfl rfl (by decide +kernel) ⟨Nat.le_of_ble_eq_true rfl, Nat.le_of_ble_eq_true rfl⟩) ⟨zPre.blind, va_recv hK hP (ci := 1) (q0 := 0) rfl rfl, zPre.call hN hP hD hK hE hS⟩ rfl rfl hl.1 rfl (lv_room (Nat.le_of_ble_eq_true rfl)) dX1_sings_74 ⟨Nat.zero_le _, Nat.zero_le _⟩).run) (fun r_74 h_74 => ?_)
    have h_74 : r_74 = (zStep c (zOut c w.toNatClampNeg p z)) := h_74
    subst h_74
    refine lv_if_lt (tgt := 84) hx hb dX1_sings_77 (by decide) (fun c_77 => ?_) (fun c_77 => ?_)
    · refine lv_iconst (v := 0) hx hb dX1_sings_84 (by decide) ?_
      refine lv_iadd hx hb dX1_sings_85 ?_
      refine va_iast hx hb hK hP hD hS 6 0 rfl rfl (zw_in hw) dX1_sings_86 (fun H locs hP hD hS => ?_)
      have hP : va_P D vwCl (wM h d cA (th) ((upd z.1 w.toNatClampNeg (zR c w.toNatClampNeg p z)), (upd z.2.1 w.toNatClampNeg (zG c w.toNatClampNeg p z)), (upd z.2.2.1 w.toNatClampNeg (z.2.2.1 w.toNatClampNeg + 1)), (zB (zChg (z.1 w.toNatClampNeg) (zR c w.toNatClampNeg p z)) z.2.2.2.1 w.toNatClampNeg), (zB (zLeap c (z.1 w.toNatClampNeg) (zR c w.toNatClampNeg p z)) z.2.2.2.2.1 w.toNatClampNeg), (upd z.2.2.2.2.2.1 w.toNatClampNeg ((z.2.2.2.2.2.1 w.toNatClampNeg) + 0)), z.2.2.2.2.2.2) c ++ E) H := hP
      have hD : va_D (zA N0) (wM h d cA (th) ((upd z.1 w.toNatClampNeg (zR c w.toNatClampNeg p z)), (upd z.2.1 w.toNatClampNeg (zG c w.toNatClampNeg p z)), (upd z.2.2.1 w.toNatClampNeg (z.2.2.1 w.toNatClampNeg + 1)), (zB (zChg (z.1 w.toNatClampNeg) (zR c w.toNatClampNeg p z)) z.2.2.2.1 w.toNatClampNeg), (zB (zLeap c (z.1 w.toNatClampNeg) (zR c w.toNatClampNeg p z)) z.2.2.2.2.1 w.toNatClampNeg), (upd z.2.2.2.2.2.1 w.toNatClampNeg ((z.2.2.2.2.2.1 w.toNatClampNeg) + 0)), z.2.2.2.2.2.2) c ++ E) := hD
      have hP : va_P D vwCl (wM h d cA (th) ((upd z.1 w.toNatClampNeg (zR c w.toNatClampNeg p z)), (upd z.2.1 w.toNatClampNeg (zG c w.toNatClampNeg p z)), (upd z.2.2.1 w.toNatClampNeg (z.2.2.1 w.toNatClampNeg + 1)), (zB (zChg (z.1 w.toNatClampNeg) (zR c w.toNatClampNeg p z)) z.2.2.2.1 w.toNatClampNeg), (zB (zLeap c (z.1 w.toNatClampNeg) (zR c w.toNatClampNeg p z)) z.2.2.2.2.1 w.toNatClampNeg), (zB (¬ zStep c (zOut c w.toNatClampNeg p z) = -1) z.2.2.2.2.2.1 w.toNatClampNeg), z.2.2.2.2.2.2) c ++ E) H := by
        rw [show ((zB (¬ zStep c (zOut c w.toNatClampNeg p z) = -1) z.2.2.2.2.2.1 w.toNatClampNeg) : Nat → Int32) = (upd z.2.2.2.2.2.1 w.toNatClampNeg ((z.2.2.2.2.2.1 w.toNatClampNeg) + 0)) from (zB_0 (fun q => q ((zStep_neg hc _).mp c_77)))]
        exact hP
      have hD : va_D (zA N0) (wM h d cA (th) ((upd z.1 w.toNatClampNeg (zR c w.toNatClampNeg p z)), (upd z.2.1 w.toNatClampNeg (zG c w.toNatClampNeg p z)), (upd z.2.2.1 w.toNatClampNeg (z.2.2.1 w.toNatClampNeg + 1)), (zB (zChg (z.1 w.toNatClampNeg) (zR c w.toNatClampNeg p z)) z.2.2.2.1 w.toNatClampNeg), (zB (zLeap c (z.1 w.toNatClampNeg) (zR c w.toNatClampNeg p z)) z.2.2.2.2.1 w.toNatClampNeg), (zB (¬ zStep c (zOut c w.toNatClampNeg p z) = -1) z.2.2.2.2.2.1 w.toNatClampNeg), z.2.2.2.2.2.2) c ++ E) := by
        rw [show ((zB (¬ zStep c (zOut c w.toNatClampNeg p z) = -1) z.2.2.2.2.2.1 w.toNatClampNeg) : Nat → Int32) = (upd z.2.2.2.2.2.1 w.toNatClampNeg ((z.2.2.2.2.2.1 w.toNatClampNeg) + 0)) from (zB_0 (fun q => q ((zStep_neg hc _).mp c_77)))]
        exact hD
      exact j87 _ _ hP hD hS ls (lv_sub hl [0, 1, 2, 3, 4] rfl)
    · refine lv_iconst (v := 1) hx hb dX1_sings_80 (by decide) ?_
      refine lv_goto (tgt := 85) hx hb dX1_sings_81 (by decide) ?_
      refine lv_iadd hx hb dX1_sings_85 ?_
      refine va_iast hx hb hK hP hD hS 6 0 rfl rfl (zw_in hw) dX1_sings_86 (fun H locs hP hD hS => ?_)
      have hP : va_P D vwCl (wM h d cA (th) ((upd z.1 w.toNatClampNeg (zR c w.toNatClampNeg p z)), (upd z.2.1 w.toNatClampNeg (zG c w.toNatClampNeg p z)), (upd z.2.2.1 w.toNatClampNeg (z.2.2.1 w.toNatClampNeg + 1)), (zB (zChg (z.1 w.toNatClampNeg) (zR c w.toNatClampNeg p z)) z.2.2.2.1 w.toNatClampNeg), (zB (zLeap c (z.1 w.toNatClampNeg) (zR c w.toNatClampNeg p z)) z.2.2.2.2.1 w.toNatClampNeg), (upd z.2.2.2.2.2.1 w.toNatClampNeg ((z.2.2.2.2.2.1 w.toNatClampNeg) + 1)), z.2.2.2.2.2.2) c ++ E) H := hP
      have hD : va_D (zA N0) (wM h d cA (th) ((upd z.1 w.toNatClampNeg (zR c w.toNatClampNeg p z)), (upd z.2.1 w.toNatClampNeg (zG c w.toNatClampNeg p z)), (upd z.2.2.1 w.toNatClampNeg (z.2.2.1 w.toNatClampNeg + 1)), (zB (zChg (z.1 w.toNatClampNeg) (zR c w.toNatClampNeg p z)) z.2.2.2.1 w.toNatClampNeg), (zB (zLeap c (z.1 w.toNatClampNeg) (zR c w.toNatClampNeg p z)) z.2.2.2.2.1 w.toNatClampNeg), (upd z.2.2.2.2.2.1 w.toNatClampNeg ((z.2.2.2.2.2.1 w.toNatClampNeg) + 1)), z.2.2.2.2.2.2) c ++ E) := hD
      have hP : va_P D vwCl (wM h d cA (th) ((upd z.1 w.toNatClampNeg (zR c w.toNatClampNeg p z)), (upd z.2.1 w.toNatClampNeg (zG c w.toNatClampNeg p z)), (upd z.2.2.1 w.toNatClampNeg (z.2.2.1 w.toNatClampNeg + 1)), (zB (zChg (z.1 w.toNatClampNeg) (zR c w.toNatClampNeg p z)) z.2.2.2.1 w.toNatClampNeg), (zB (zLeap c (z.1 w.toNatClampNeg) (zR c w.toNatClampNeg p z)) z.2.2.2.2.1 w.toNatClampNeg), (zB (¬ zStep c (zOut c w.toNatClampNeg p z) = -1) z.2.2.2.2.2.1 w.toNatClampNeg), z.2.2.2.2.2.2) c ++ E) H := by
        rw [show ((zB (¬ zStep c (zOut c w.toNatClampNeg p z) = -1) z.2.2.2.2.2.1 w.toNatClampNeg) : Nat → Int32) = (upd z.2.2.2.2.2.1 w.toNatClampNeg ((z.2.2.2.2.2.1 w.toNatClampNeg) + 1)) from (zB_1 (fun q => c_77 ((zStep_neg hc _).mpr q)))]
        exact hP
      have hD : va_D (zA N0) (wM h d cA (th) ((upd z.1 w.toNatClampNeg (zR c w.toNatClampNeg p z)), (upd z.2.1 w.toNatClampNeg (zG c w.toNatClampNeg p z)), (upd z.2.2.1 w.toNatClampNeg (z.2.2.1 w.toNatClampNeg + 1)), (zB (zChg (z.1 w.toNatClampNeg) (zR c w.toNatClampNeg p z)) z.2.2.2.1 w.toNatClampNeg), (zB (zLeap c (z.1 w.toNatClampNeg) (zR c w.toNatClampNeg p z)) z.2.2.2.2.1 w.toNatClampNeg), (zB (¬ zStep c (zOut c w.toNatClampNeg p z) = -1) z.2.2.2.2.2.1 w.toNatClampNeg), z.2.2.2.2.2.2) c ++ E) := by
        rw [show ((zB (¬ zStep c (zOut c w.toNatClampNeg p z) = -1) z.2.2.2.2.2.1 w.toNatClampNeg) : Nat → Int32) = (upd z.2.2.2.2.2.1 w.toNatClampNeg ((z.2.2.2.2.2.1 w.toNatClampNeg) + 1)) from (zB_1 (fun q => c_77 ((zStep_neg hc _).mpr q)))]
        exact hD
      exact j87 _ _ hP hD hS ls (lv_sub hl [0, 1, 2, 3, 4] rfl)
  have j45 : ∀ (H : Heap) (locs : List Loc), va_P D vwCl (wM h d cA (th) ((upd z.1 w.toNatClampNeg (zR c w.toNatClampNeg p z)), (upd z.2.1 w.toNatClampNeg (zG c w.toNatClampNeg p z)), (upd z.2.2.1 w.toNatClampNeg (z.2.2.1 w.toNatClampNeg + 1)), (zB (zChg (z.1 w.toNatClampNeg) (zR c w.toNatClampNeg p z)) z.2.2.2.1 w.toNatClampNeg), z.2.2.2.2.1, z.2.2.2.2.2.1, z.2.2.2.2.2.2) c ++ E) H → va_D (zA N0) (wM h d cA (th) ((upd z.1 w.toNatClampNeg (zR c w.toNatClampNeg p z)), (upd z.2.1 w.toNatClampNeg (zG c w.toNatClampNeg p z)), (upd z.2.2.1 w.toNatClampNeg (z.2.2.1 w.toNatClampNeg + 1)), (zB (zChg (z.1 w.toNatClampNeg) (zR c w.toNatClampNeg p z)) z.2.2.2.1 w.toNatClampNeg), z.2.2.2.2.1, z.2.2.2.2.2.1, z.2.2.2.2.2.2) c ++ E) → va_S (zA N0) s.heap H locs → ∀ (ls : Array Slot), lv_has ls 5 [(4, .int (zOut c w.toNatClampNeg p z)), (3, .int (zMv c w.toNatClampNeg p z)), (0, .ref h), (1, .int w), (2, .int p)] → W pr l e (headSpec wsX1_sings ({ frames := 6, cells := 0, slots := 0, locals := 141 })).room s m ([.ref h, .int w, .int p] : List Value).toArray below meth cd H locs 0 0 (MQ below (va_Qi (fun (rv : Int32) (_ : Unit) => rv = zOut c w.toNatClampNeg p z) (fun _ t => zPost D N0 (wM h d cA (th) (zSg c w.toNatClampNeg p z) c ++ E) t) (zA N0)) ([.ref h, .int w, .int p] : List Value).toArray s 0 0 (zA N0)) (F0 m 45 ls []) := by
    intro H locs hP hD hS ls hl
    refine lv_aload_n hx hb dX1_sings_45 rfl (lv_at hl 2 rfl) ?_
    refine va_get (D := D) (ci := 1) (v := .ref (d 4)) (C := RX1) (T := TX1) (N := 13) hx hb hts hiw hown hK hP 0 rfl rfl 10 (by decide) (hts (.fieldLink RX1 32 "TunedWrensModel" "leaps" "[I") (by decide +kernel)) (fun _ h9 => h9) rfl dX1_sings_46 ?_
    refine lv_iload_n hx hb dX1_sings_49 rfl (lv_at hl 3 rfl) ?_
    refine lv_dup2_11 hx hb dX1_sings_50 rfl rfl ?_
    refine va_iald hx hb hK hP 5 0 rfl rfl (zw_in hw) dX1_sings_51 ?_
    refine lv_iload_n hx hb dX1_sings_52 rfl (lv_at hl 1 rfl) ?_
    refine lv_iconst (v := 1) hx hb dX1_sings_53 (by decide) ?_
    refine lv_icmp_le (tgt := 61) hx hb dX1_sings_54 (by decide) (fun c_54 => ?_) (fun c_54 => ?_)
    · refine lv_iconst (v := 0) hx hb dX1_sings_61 (by decide) ?_
      refine lv_iadd hx hb dX1_sings_62 ?_
      refine va_iast hx hb hK hP hD hS 5 0 rfl rfl (zw_in hw) dX1_sings_63 (fun H locs hP hD hS => ?_)
      have hP : va_P D vwCl (wM h d cA (th) ((upd z.1 w.toNatClampNeg (zR c w.toNatClampNeg p z)), (upd z.2.1 w.toNatClampNeg (zG c w.toNatClampNeg p z)), (upd z.2.2.1 w.toNatClampNeg (z.2.2.1 w.toNatClampNeg + 1)), (zB (zChg (z.1 w.toNatClampNeg) (zR c w.toNatClampNeg p z)) z.2.2.2.1 w.toNatClampNeg), (upd z.2.2.2.2.1 w.toNatClampNeg ((z.2.2.2.2.1 w.toNatClampNeg) + 0)), z.2.2.2.2.2.1, z.2.2.2.2.2.2) c ++ E) H := hP
      have hD : va_D (zA N0) (wM h d cA (th) ((upd z.1 w.toNatClampNeg (zR c w.toNatClampNeg p z)), (upd z.2.1 w.toNatClampNeg (zG c w.toNatClampNeg p z)), (upd z.2.2.1 w.toNatClampNeg (z.2.2.1 w.toNatClampNeg + 1)), (zB (zChg (z.1 w.toNatClampNeg) (zR c w.toNatClampNeg p z)) z.2.2.2.1 w.toNatClampNeg), (upd z.2.2.2.2.1 w.toNatClampNeg ((z.2.2.2.2.1 w.toNatClampNeg) + 0)), z.2.2.2.2.2.1, z.2.2.2.2.2.2) c ++ E) := hD
      have hP : va_P D vwCl (wM h d cA (th) ((upd z.1 w.toNatClampNeg (zR c w.toNatClampNeg p z)), (upd z.2.1 w.toNatClampNeg (zG c w.toNatClampNeg p z)), (upd z.2.2.1 w.toNatClampNeg (z.2.2.1 w.toNatClampNeg + 1)), (zB (zChg (z.1 w.toNatClampNeg) (zR c w.toNatClampNeg p z)) z.2.2.2.1 w.toNatClampNeg), (zB (zLeap c (z.1 w.toNatClampNeg) (zR c w.toNatClampNeg p z)) z.2.2.2.2.1 w.toNatClampNeg), z.2.2.2.2.2.1, z.2.2.2.2.2.2) c ++ E) H := by
        rw [show ((zB (zLeap c (z.1 w.toNatClampNeg) (zR c w.toNatClampNeg p z)) z.2.2.2.2.1 w.toNatClampNeg) : Nat → Int32) = (upd z.2.2.2.2.1 w.toNatClampNeg ((z.2.2.2.2.1 w.toNatClampNeg) + 0)) from (zB_0 (zMv_l0 c_54))]
        exact hP
      have hD : va_D (zA N0) (wM h d cA (th) ((upd z.1 w.toNatClampNeg (zR c w.toNatClampNeg p z)), (upd z.2.1 w.toNatClampNeg (zG c w.toNatClampNeg p z)), (upd z.2.2.1 w.toNatClampNeg (z.2.2.1 w.toNatClampNeg + 1)), (zB (zChg (z.1 w.toNatClampNeg) (zR c w.toNatClampNeg p z)) z.2.2.2.1 w.toNatClampNeg), (zB (zLeap c (z.1 w.toNatClampNeg) (zR c w.toNatClampNeg p z)) z.2.2.2.2.1 w.toNatClampNeg), z.2.2.2.2.2.1, z.2.2.2.2.2.2) c ++ E) := by
        rw [show ((zB (zLeap c (z.1 w.toNatClampNeg) (zR c w.toNatClampNeg p z)) z.2.2.2.2.1 w.toNatClampNeg) : Nat → Int32) = (upd z.2.2.2.2.1 w.toNatClampNeg ((z.2.2.2.2.1 w.toNatClampNeg) + 0)) from (zB_0 (zMv_l0 c_54))]
        exact hD
      exact j64 _ _ hP hD hS ls (lv_sub hl [0, 1, 2, 3, 4] rfl)
    · refine lv_iconst (v := 1) hx hb dX1_sings_57 (by decide) ?_
      refine lv_goto (tgt := 62) hx hb dX1_sings_58 (by decide) ?_
      refine lv_iadd hx hb dX1_sings_62 ?_
      refine va_iast hx hb hK hP hD hS 5 0 rfl rfl (zw_in hw) dX1_sings_63 (fun H locs hP hD hS => ?_)
      have hP : va_P D vwCl (wM h d cA (th) ((upd z.1 w.toNatClampNeg (zR c w.toNatClampNeg p z)), (upd z.2.1 w.toNatClampNeg (zG c w.toNatClampNeg p z)), (upd z.2.2.1 w.toNatClampNeg (z.2.2.1 w.toNatClampNeg + 1)), (zB (zChg (z.1 w.toNatClampNeg) (zR c w.toNatClampNeg p z)) z.2.2.2.1 w.toNatClampNeg), (upd z.2.2.2.2.1 w.toNatClampNeg ((z.2.2.2.2.1 w.toNatClampNeg) + 1)), z.2.2.2.2.2.1, z.2.2.2.2.2.2) c ++ E) H := hP
      have hD : va_D (zA N0) (wM h d cA (th) ((upd z.1 w.toNatClampNeg (zR c w.toNatClampNeg p z)), (upd z.2.1 w.toNatClampNeg (zG c w.toNatClampNeg p z)), (upd z.2.2.1 w.toNatClampNeg (z.2.2.1 w.toNatClampNeg + 1)), (zB (zChg (z.1 w.toNatClampNeg) (zR c w.toNatClampNeg p z)) z.2.2.2.1 w.toNatClampNeg), (upd z.2.2.2.2.1 w.toNatClampNeg ((z.2.2.2.2.1 w.toNatClampNeg) + 1)), z.2.2.2.2.2.1, z.2.2.2.2.2.2) c ++ E) := hD
      have hP : va_P D vwCl (wM h d cA (th) ((upd z.1 w.toNatClampNeg (zR c w.toNatClampNeg p z)), (upd z.2.1 w.toNatClampNeg (zG c w.toNatClampNeg p z)), (upd z.2.2.1 w.toNatClampNeg (z.2.2.1 w.toNatClampNeg + 1)), (zB (zChg (z.1 w.toNatClampNeg) (zR c w.toNatClampNeg p z)) z.2.2.2.1 w.toNatClampNeg), (zB (zLeap c (z.1 w.toNatClampNeg) (zR c w.toNatClampNeg p z)) z.2.2.2.2.1 w.toNatClampNeg), z.2.2.2.2.2.1, z.2.2.2.2.2.2) c ++ E) H := by
        rw [show ((zB (zLeap c (z.1 w.toNatClampNeg) (zR c w.toNatClampNeg p z)) z.2.2.2.2.1 w.toNatClampNeg) : Nat → Int32) = (upd z.2.2.2.2.1 w.toNatClampNeg ((z.2.2.2.2.1 w.toNatClampNeg) + 1)) from (zB_1 (zMv_l1 c_54))]
        exact hP
      have hD : va_D (zA N0) (wM h d cA (th) ((upd z.1 w.toNatClampNeg (zR c w.toNatClampNeg p z)), (upd z.2.1 w.toNatClampNeg (zG c w.toNatClampNeg p z)), (upd z.2.2.1 w.toNatClampNeg (z.2.2.1 w.toNatClampNeg + 1)), (zB (zChg (z.1 w.toNatClampNeg) (zR c w.toNatClampNeg p z)) z.2.2.2.1 w.toNatClampNeg), (zB (zLeap c (z.1 w.toNatClampNeg) (zR c w.toNatClampNeg p z)) z.2.2.2.2.1 w.toNatClampNeg), z.2.2.2.2.2.1, z.2.2.2.2.2.2) c ++ E) := by
        rw [show ((zB (zLeap c (z.1 w.toNatClampNeg) (zR c w.toNatClampNeg p z)) z.2.2.2.2.1 w.toNatClampNeg) : Nat → Int32) = (upd z.2.2.2.2.1 w.toNatClampNeg ((z.2.2.2.2.1 w.toNatClampNeg) + 1)) from (zB_1 (zMv_l1 c_54))]
        exact hD
      exact j64 _ _ hP hD hS ls (lv_sub hl [0, 1, 2, 3, 4] rfl)
  refine lv_aload_n hx hb dX1_sings_0 rfl (lv_at hl 0 rfl) ?_
  refine lv_iload_n hx hb dX1_sings_1 rfl (lv_at hl 1 rfl) ?_
  refine lv_iload_n hx hb dX1_sings_2 rfl (lv_at hl 2 rfl) ?_
  refine va_calli (va_runV (As := [.int w, .int p]) (rest := []) ⟨hx, hb, hml, hown, hts⟩ (c_X1_moves l D N0 cA cL E h d (th) z c w p hc hw hp hz) (cwV 2 hts gX1_sings_X1_moves rfl rfl rfl (by decide +kernel) ⟨Nat.le_of_ble_eq_true rfl, Nat.le_of_ble_eq_true rfl⟩) ⟨zPre.blind, va_recv hK hP (ci := 1) (q0 := 0) rfl rfl, zPre.call hN hP hD hK hE hS⟩ rfl rfl hl.1 rfl (lv_room (Nat.le_of_ble_eq_true rfl)) dX1_sings_3 ⟨Nat.zero_le _, Nat.zero_le _⟩) hS (fun _ _ h9 => h9) (fun _ h9 => h9) (fun r_3 _ t H locs ht hvm h_3 hB hz1 hk1 hS => ?_)
  have h_3 : r_3 = (zMv c w.toNatClampNeg p z) := h_3
  subst h_3
  obtain ⟨hP, hD⟩ := hB
  rw [ht] at hP
  have hP : va_P D vwCl (wM h d cA (th) ((upd z.1 w.toNatClampNeg (zR c w.toNatClampNeg p z)), (upd z.2.1 w.toNatClampNeg (zG c w.toNatClampNeg p z)), z.2.2.1, z.2.2.2.1, z.2.2.2.2.1, z.2.2.2.2.2.1, z.2.2.2.2.2.2) c ++ E) H := hP
  have hD : va_D (zA N0) (wM h d cA (th) ((upd z.1 w.toNatClampNeg (zR c w.toNatClampNeg p z)), (upd z.2.1 w.toNatClampNeg (zG c w.toNatClampNeg p z)), z.2.2.1, z.2.2.2.1, z.2.2.2.2.1, z.2.2.2.2.2.1, z.2.2.2.2.2.2) c ++ E) := hD
  refine lv_istore_n (lv' := [(3, .int (zMv c w.toNatClampNeg p z)), (0, .ref h), (1, .int w), (2, .int p)]) hx hb dX1_sings_6 rfl hl (by decide) rfl (fun ls hl => ?_)
  refine lv_iload_n hx hb dX1_sings_7 rfl (lv_at hl 3 rfl) ?_
  refine lv_aload_n hx hb dX1_sings_8 rfl (lv_at hl 1 rfl) ?_
  refine va_get (D := D) (ci := 1) (v := .ref (d 1)) (C := RX1) (T := TX1) (N := 13) hx hb hts hiw hown hK hP 0 rfl rfl 7 (by decide) (hts (.fieldLink RX1 23 "TunedWrensModel" "nudges" "[I") (by decide +kernel)) (fun _ h9 => h9) rfl dX1_sings_9 ?_
  refine lv_iload_n hx hb dX1_sings_12 rfl (lv_at hl 2 rfl) ?_
  refine va_iald hx hb hK hP 2 0 rfl rfl (zw_in hw) dX1_sings_13 ?_
  refine lv_iadd hx hb dX1_sings_14 ?_
  rw [show ((p + ((upd z.2.1 w.toNatClampNeg (zG c w.toNatClampNeg p z)) w.toNatClampNeg)) : Int32) = (zOut c w.toNatClampNeg p z) from (by rw [pk_us]; rfl)]
  refine lv_istore (lv' := [(4, .int (zOut c w.toNatClampNeg p z)), (3, .int (zMv c w.toNatClampNeg p z)), (0, .ref h), (1, .int w), (2, .int p)]) hx hb dX1_sings_15 hl (by decide) rfl (fun ls hl => ?_)
  refine lv_aload_n hx hb dX1_sings_17 rfl (lv_at hl 2 rfl) ?_
  refine va_get (D := D) (ci := 1) (v := .ref (d 2)) (C := RX1) (T := TX1) (N := 13) hx hb hts hiw hown hK hP 0 rfl rfl 8 (by decide) (hts (.fieldLink RX1 26 "TunedWrensModel" "frames" "[I") (by decide +kernel)) (fun _ h9 => h9) rfl dX1_sings_18 ?_
  refine lv_iload_n hx hb dX1_sings_21 rfl (lv_at hl 3 rfl) ?_
  refine lv_dup2_11 hx hb dX1_sings_22 rfl rfl ?_
  refine va_iald hx hb hK hP 3 0 rfl rfl (zw_in hw) dX1_sings_23 ?_
  refine lv_iconst (v := 1) hx hb dX1_sings_24 (by decide) ?_
  refine lv_iadd hx hb dX1_sings_25 ?_
  refine va_iast hx hb hK hP hD hS 3 0 rfl rfl (zw_in hw) dX1_sings_26 (fun H locs hP hD hS => ?_)
  have hP : va_P D vwCl (wM h d cA (th) ((upd z.1 w.toNatClampNeg (zR c w.toNatClampNeg p z)), (upd z.2.1 w.toNatClampNeg (zG c w.toNatClampNeg p z)), (upd z.2.2.1 w.toNatClampNeg ((z.2.2.1 w.toNatClampNeg) + 1)), z.2.2.2.1, z.2.2.2.2.1, z.2.2.2.2.2.1, z.2.2.2.2.2.2) c ++ E) H := hP
  have hD : va_D (zA N0) (wM h d cA (th) ((upd z.1 w.toNatClampNeg (zR c w.toNatClampNeg p z)), (upd z.2.1 w.toNatClampNeg (zG c w.toNatClampNeg p z)), (upd z.2.2.1 w.toNatClampNeg ((z.2.2.1 w.toNatClampNeg) + 1)), z.2.2.2.1, z.2.2.2.2.1, z.2.2.2.2.2.1, z.2.2.2.2.2.2) c ++ E) := hD
  refine lv_aload_n hx hb dX1_sings_27 rfl (lv_at hl 2 rfl) ?_
  refine va_get (D := D) (ci := 1) (v := .ref (d 3)) (C := RX1) (T := TX1) (N := 13) hx hb hts hiw hown hK hP 0 rfl rfl 9 (by decide) (hts (.fieldLink RX1 29 "TunedWrensModel" "changes" "[I") (by decide +kernel)) (fun _ h9 => h9) rfl dX1_sings_28 ?_
  refine lv_iload_n hx hb dX1_sings_31 rfl (lv_at hl 3 rfl) ?_
  refine lv_dup2_11 hx hb dX1_sings_32 rfl rfl ?_
  refine va_iald hx hb hK hP 4 0 rfl rfl (zw_in hw) dX1_sings_33 ?_
  refine lv_iload_n hx hb dX1_sings_34 rfl (lv_at hl 1 rfl) ?_
  refine lv_if_le (tgt := 42) hx hb dX1_sings_35 (by decide) (fun c_35 => ?_) (fun c_35 => ?_)
  · refine lv_iconst (v := 0) hx hb dX1_sings_42 (by decide) ?_
    refine lv_iadd hx hb dX1_sings_43 ?_
    refine va_iast hx hb hK hP hD hS 4 0 rfl rfl (zw_in hw) dX1_sings_44 (fun H locs hP hD hS => ?_)
    have hP : va_P D vwCl (wM h d cA (th) ((upd z.1 w.toNatClampNeg (zR c w.toNatClampNeg p z)), (upd z.2.1 w.toNatClampNeg (zG c w.toNatClampNeg p z)), (upd z.2.2.1 w.toNatClampNeg ((z.2.2.1 w.toNatClampNeg) + 1)), (upd z.2.2.2.1 w.toNatClampNeg ((z.2.2.2.1 w.toNatClampNeg) + 0)), z.2.2.2.2.1, z.2.2.2.2.2.1, z.2.2.2.2.2.2) c ++ E) H := hP
    have hD : va_D (zA N0) (wM h d cA (th) ((upd z.1 w.toNatClampNeg (zR c w.toNatClampNeg p z)), (upd z.2.1 w.toNatClampNeg (zG c w.toNatClampNeg p z)), (upd z.2.2.1 w.toNatClampNeg ((z.2.2.1 w.toNatClampNeg) + 1)), (upd z.2.2.2.1 w.toNatClampNeg ((z.2.2.2.1 w.toNatClampNeg) + 0)), z.2.2.2.2.1, z.2.2.2.2.2.1, z.2.2.2.2.2.2) c ++ E) := hD
    have hP : va_P D vwCl (wM h d cA (th) ((upd z.1 w.toNatClampNeg (zR c w.toNatClampNeg p z)), (upd z.2.1 w.toNatClampNeg (zG c w.toNatClampNeg p z)), (upd z.2.2.1 w.toNatClampNeg ((z.2.2.1 w.toNatClampNeg) + 1)), (zB (zChg (z.1 w.toNatClampNeg) (zR c w.toNatClampNeg p z)) z.2.2.2.1 w.toNatClampNeg), z.2.2.2.2.1, z.2.2.2.2.2.1, z.2.2.2.2.2.2) c ++ E) H := by
      rw [show ((zB (zChg (z.1 w.toNatClampNeg) (zR c w.toNatClampNeg p z)) z.2.2.2.1 w.toNatClampNeg) : Nat → Int32) = (upd z.2.2.2.1 w.toNatClampNeg ((z.2.2.2.1 w.toNatClampNeg) + 0)) from (zB_0 (zMv_c0 c_35))]
      exact hP
    have hD : va_D (zA N0) (wM h d cA (th) ((upd z.1 w.toNatClampNeg (zR c w.toNatClampNeg p z)), (upd z.2.1 w.toNatClampNeg (zG c w.toNatClampNeg p z)), (upd z.2.2.1 w.toNatClampNeg ((z.2.2.1 w.toNatClampNeg) + 1)), (zB (zChg (z.1 w.toNatClampNeg) (zR c w.toNatClampNeg p z)) z.2.2.2.1 w.toNatClampNeg), z.2.2.2.2.1, z.2.2.2.2.2.1, z.2.2.2.2.2.2) c ++ E) := by
      rw [show ((zB (zChg (z.1 w.toNatClampNeg) (zR c w.toNatClampNeg p z)) z.2.2.2.1 w.toNatClampNeg) : Nat → Int32) = (upd z.2.2.2.1 w.toNatClampNeg ((z.2.2.2.1 w.toNatClampNeg) + 0)) from (zB_0 (zMv_c0 c_35))]
      exact hD
    exact j45 _ _ hP hD hS ls (lv_sub hl [0, 1, 2, 3, 4] rfl)
  · refine lv_iconst (v := 1) hx hb dX1_sings_38 (by decide) ?_
    refine lv_goto (tgt := 43) hx hb dX1_sings_39 (by decide) ?_
    refine lv_iadd hx hb dX1_sings_43 ?_
    refine va_iast hx hb hK hP hD hS 4 0 rfl rfl (zw_in hw) dX1_sings_44 (fun H locs hP hD hS => ?_)
    have hP : va_P D vwCl (wM h d cA (th) ((upd z.1 w.toNatClampNeg (zR c w.toNatClampNeg p z)), (upd z.2.1 w.toNatClampNeg (zG c w.toNatClampNeg p z)), (upd z.2.2.1 w.toNatClampNeg ((z.2.2.1 w.toNatClampNeg) + 1)), (upd z.2.2.2.1 w.toNatClampNeg ((z.2.2.2.1 w.toNatClampNeg) + 1)), z.2.2.2.2.1, z.2.2.2.2.2.1, z.2.2.2.2.2.2) c ++ E) H := hP
    have hD : va_D (zA N0) (wM h d cA (th) ((upd z.1 w.toNatClampNeg (zR c w.toNatClampNeg p z)), (upd z.2.1 w.toNatClampNeg (zG c w.toNatClampNeg p z)), (upd z.2.2.1 w.toNatClampNeg ((z.2.2.1 w.toNatClampNeg) + 1)), (upd z.2.2.2.1 w.toNatClampNeg ((z.2.2.2.1 w.toNatClampNeg) + 1)), z.2.2.2.2.1, z.2.2.2.2.2.1, z.2.2.2.2.2.2) c ++ E) := hD
    have hP : va_P D vwCl (wM h d cA (th) ((upd z.1 w.toNatClampNeg (zR c w.toNatClampNeg p z)), (upd z.2.1 w.toNatClampNeg (zG c w.toNatClampNeg p z)), (upd z.2.2.1 w.toNatClampNeg ((z.2.2.1 w.toNatClampNeg) + 1)), (zB (zChg (z.1 w.toNatClampNeg) (zR c w.toNatClampNeg p z)) z.2.2.2.1 w.toNatClampNeg), z.2.2.2.2.1, z.2.2.2.2.2.1, z.2.2.2.2.2.2) c ++ E) H := by
      rw [show ((zB (zChg (z.1 w.toNatClampNeg) (zR c w.toNatClampNeg p z)) z.2.2.2.1 w.toNatClampNeg) : Nat → Int32) = (upd z.2.2.2.1 w.toNatClampNeg ((z.2.2.2.1 w.toNatClampNeg) + 1)) from (zB_1 (zMv_c1 c_35))]
      exact hP
    have hD : va_D (zA N0) (wM h d cA (th) ((upd z.1 w.toNatClampNeg (zR c w.toNatClampNeg p z)), (upd z.2.1 w.toNatClampNeg (zG c w.toNatClampNeg p z)), (upd z.2.2.1 w.toNatClampNeg ((z.2.2.1 w.toNatClampNeg) + 1)), (zB (zChg (z.1 w.toNatClampNeg) (zR c w.toNatClampNeg p z)) z.2.2.2.1 w.toNatClampNeg), z.2.2.2.2.1, z.2.2.2.2.2.1, z.2.2.2.2.2.2) c ++ E) := by
      rw [show ((zB (zChg (z.1 w.toNatClampNeg) (zR c w.toNatClampNeg p z)) z.2.2.2.1 w.toNatClampNeg) : Nat → Int32) = (upd z.2.2.2.1 w.toNatClampNeg ((z.2.2.2.1 w.toNatClampNeg) + 1)) from (zB_1 (zMv_c1 c_35))]
      exact hD
    exact j45 _ _ hP hD hS ls (lv_sub hl [0, 1, 2, 3, 4] rfl)
