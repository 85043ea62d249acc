theorem zSem_lt (p : Int32) : zSem p < 12 := Nat.mod_lt _ (by decide)
theorem zPit_ok {a b : Int32} {f k : Nat} (ha : zp a) (hb : zp b) (hf : 2 ≤ f) (hf2 : f ≤ 50) (hk : k < f) : zp (zPit a b f k) := by
  have h1 := zp_n ha
  have h2 := zp_n hb
  have h3 : a.toNatClampNeg * (f - 1 - k) ≤ 12000 * (f - 1 - k) := Nat.mul_le_mul_right _ h1
  have h4 : b.toNatClampNeg * k ≤ 12000 * k := Nat.mul_le_mul_right _ h2
  have h5 : 12000 * (f - 1 - k) + 12000 * k = 12000 * (f - 1) := by rw [← Nat.mul_add]; congr 1; omega
  have h6 : (a.toNatClampNeg * (f - 1 - k) + b.toNatClampNeg * k) / (f - 1) ≤ 12000 := by
    refine Nat.div_le_of_le_mul ?_
    rw [Nat.mul_comm (f - 1)]
    omega
  exact zn_in (n := 12000) h6 (by decide)
theorem zPit_X {a b : Int32} {f k : Nat} (ha : zp a) (hb : zp b) (hf : 2 ≤ f) (hf2 : f ≤ 50) (hk : k < f) : a + zFD ((b - a) * nI k) (f - 1) = zPit a b f k := by
  obtain ⟨m, hm, rfl⟩ := nI_of2 (n := 12000) (M := 12000) rfl (Int32.not_lt.mpr ha.1) ha.2
  obtain ⟨n, hn, rfl⟩ := nI_of2 (n := 12000) (M := 12000) rfl (Int32.not_lt.mpr hb.1) hb.2
  unfold zPit
  rw [nI_clamp (by omega), nI_clamp (by omega)]
  have e1 : (nI n - nI m).toInt = (n : Int) - m := pk_sub_toInt (by omega) (by omega)
  have ek : (nI k).toInt = (k : Int) := nI_toInt (by omega)
  have b1 : n * k ≤ 12000 * 49 := Nat.mul_le_mul hn (by omega)
  have b2 : m * k ≤ 12000 * 49 := Nat.mul_le_mul hm (by omega)
  have e2 : ((n : Int) - m) * k = ((n * k : Nat) : Int) - ((m * k : Nat) : Int) := by rw [Int.sub_mul]; simp
  have e3 : ((nI n - nI m) * nI k).toInt = ((n * k : Nat) : Int) - ((m * k : Nat) : Int) := by
    rw [fb_mulI (by rw [e1, ek, e2]; omega) (by rw [e1, ek, e2]; omega), e1, ek, e2]
  have h5 : m * (f - 1 - k) + m * k = m * (f - 1) := by rw [← Nat.mul_add]; congr 1; omega
  have e4 : ((m * (f - 1 - k) + n * k : Nat) : Int) = (((n * k : Nat) : Int) - ((m * k : Nat) : Int)) + (m : Int) * ((f - 1 : Nat) : Int) := by
    have h6 : ((m * (f - 1) : Nat) : Int) = (m : Int) * ((f - 1 : Nat) : Int) := by simp
    rw [← h6]
    omega
  have h7 : (m * (f - 1 - k) + n * k) / (f - 1) ≤ 12000 := by
    refine Nat.div_le_of_le_mul ?_
    have h3 : m * (f - 1 - k) ≤ 12000 * (f - 1 - k) := Nat.mul_le_mul_right _ hm
    have h4 : n * k ≤ 12000 * k := Nat.mul_le_mul_right _ hn
    have h8 : 12000 * (f - 1 - k) + 12000 * k = 12000 * (f - 1) := by rw [← Nat.mul_add]; congr 1; omega
    rw [Nat.mul_comm (f - 1)]
    omega
  have e5 : (((m * (f - 1 - k) + n * k) / (f - 1) : Nat) : Int) = ((((n * k : Nat) : Int) - ((m * k : Nat) : Int)) / ((f - 1 : Nat) : Int)) + m := by
    rw [Int.natCast_ediv, e4, Int.add_mul_ediv_right _ _ (by omega)]
  have em : (nI m).toInt = (m : Int) := nI_toInt (by omega)
  have ez := zFD_toInt ((nI n - nI m) * nI k) (d := f - 1) (by omega)
  rw [e3] at ez
  generalize (((n * k : Nat) : Int) - ((m * k : Nat) : Int)) / ((f - 1 : Nat) : Int) = Q at ez e5
  generalize (m * (f - 1 - k) + n * k) / (f - 1) = N at e5 h7 ⊢
  rw [fa_eq, fb_addI (by rw [em, ez]; omega) (by rw [em, ez]; omega), em, ez, nI_toInt (by omega), e5]
  omega
theorem zLn_0 {c : C5} {r : Nat → Int32} {k : Nat} (h : ¬ (¬ (zLn c r k).1 k = -1 ∧ zStep c ((zLn c r k).1 k) = -1)) : zLn c r (k + 1) = zLn c r k := if_neg h
theorem zLn_1 {c : C5} {r : Nat → Int32} {k : Nat} (h : ¬ (zLn c r k).1 k = -1) (h2 : zStep c ((zLn c r k).1 k) = -1) : zLn c r (k + 1) = (upd (zLn c r k).1 k (-1), (zLn c r k).2 + 1) := if_pos ⟨h, h2⟩

set_option maxHeartbeats 4000000 in
set_option maxRecDepth 100000 in
theorem c_X0_setNudging_v (l : Launch) (D : va_G) (N0 : Nat) (cA cL : ClassId) (E : va_W) (h : Nat) (d : Nat → Nat) (z : S7) (c : C5) (sp : Int32) (le : Int32) (gl : Int32) (h1 : 0 ≤ sp ∧ sp ≤ 100) (h2 : 0 ≤ le ∧ le ≤ 600) (h3 : 0 ≤ gl ∧ gl ≤ 12000) : Met l yX0_setNudging wsX0_setNudging ({ frames := 1, cells := 0, slots := 0, locals := 22 }) (va_Pc [.ref h, .int sp, .int le, .int gl] (zPre D N0 cA cL (wX h d cA z c ++ E))) (va_Qv (fun (_ : Unit) => True) (fun _ t => zPost D N0 (wX h d cA z (c.1, c.2.1, sp, le, gl) ++ E) t) (zA N0)) 0 0 (zA N0) := by
  refine Met.ofW (cc := cX0_setNudging) (maxL := 4) (ret := none) (by decide) rfl ?_
  intro pr e s m ag below meth cd s₁ B hml hv
  obtain ⟨rfl, hN, hP, hD, hK, hE⟩ := hv
  have hx := B.exec
  have hb := B.bytes
  have hr := B.returns
  have hts := atoms_spec (ws := wsX0_setNudging) B.pre
  have hown : s.vm.findClass RX0 = some m.cls := findClass_of_methodNamed B.named
  have hlocks := B.notSynchronized
  have hS : va_S (zA N0) s.heap s.heap [] := va_S.rf
  have hiw : ∀ w ∈ u_ws RX0 TX0 12, w ∈ wsX0_setNudging := by decide +kernel
  have hl := lv_entry ([.ref h, .int sp, .int le, .int gl]) (n := 4) (Nat.le_of_ble_eq_true rfl)
  rw [lg_entry_eq]
  generalize (lg_sl ([.ref h, .int sp, .int le, .int gl]) ++ List.replicate (4 - (lg_sl ([.ref h, .int sp, .int le, .int gl])).length) Slot.unset).toArray = ls at hl ⊢
  have hl : lv_has ls 4 [(0, .ref h), (1, .int sp), (2, .int le), (3, .int gl)] := hl
  refine lv_iload_n hx hb dX0_setNudging_0 rfl (lv_at hl 1 rfl) ?_
  refine lv_iconst (v := 0) hx hb dX0_setNudging_1 (by decide) ?_
  refine lv_bipush (v := 100) hx hb dX0_setNudging_2 (by decide) ?_
  refine va_csv ((va_runS (As := [.int sp, .int 0, .int 100]) (rest := []) ⟨hx, hb, hml, hown, hts⟩ (c_X0_requireRange_v l sp 0 100 h1) (va_cwS 3 hts gX0_setNudging_X0_requireRange rfl rfl rfl (by decide +kernel) ⟨Nat.le_of_ble_eq_true rfl, Nat.le_of_ble_eq_true rfl⟩) ⟨zT.blind, zT.call⟩ rfl rfl hl.1 rfl (lv_room (Nat.le_of_ble_eq_true rfl)) dX0_setNudging_4 ⟨Nat.zero_le _, Nat.zero_le _⟩).run) (fun _ => ?_)
  refine lv_iload_n hx hb dX0_setNudging_7 rfl (lv_at hl 2 rfl) ?_
  refine lv_iconst (v := 0) hx hb dX0_setNudging_8 (by decide) ?_
  refine lv_sipush (v := 600) hx hb dX0_setNudging_9 (by decide) ?_
  refine va_csv ((va_runS (As := [.int le, .int 0, .int 600]) (rest := []) ⟨hx, hb, hml, hown, hts⟩ (c_X0_requireRange_v l le 0 600 h2) (va_cwS 3 hts gX0_setNudging_X0_requireRange rfl rfl rfl (by decide +kernel) ⟨Nat.le_of_ble_eq_true rfl, Nat.le_of_ble_eq_true rfl⟩) ⟨zT.blind, zT.call⟩ rfl rfl hl.1 rfl (lv_room (Nat.le_of_ble_eq_true rfl)) dX0_setNudging_12 ⟨Nat.zero_le _, Nat.zero_le _⟩).run) (fun _ => ?_)
  refine lv_iload_n hx hb dX0_setNudging_15 rfl (lv_at hl 3 rfl) ?_
  refine lv_iconst (v := 0) hx hb dX0_setNudging_16 (by decide) ?_
  refine lv_sipush (v := 12000) hx hb dX0_setNudging_17 (by decide) ?_
  refine va_csv ((va_runS (As := [.int gl, .int 0, .int 12000]) (rest := []) ⟨hx, hb, hml, hown, hts⟩ (c_X0_requireRange_v l gl 0 12000 h3) (va_cwS 3 hts gX0_setNudging_X0_requireRange rfl rfl rfl (by decide +kernel) ⟨Nat.le_of_ble_eq_true rfl, Nat.le_of_ble_eq_true rfl⟩) ⟨zT.blind, zT.call⟩ rfl rfl hl.1 rfl (lv_room (Nat.le_of_ble_eq_true rfl)) dX0_setNudging_20 ⟨Nat.zero_le _, Nat.zero_le _⟩).run) (fun _ => ?_)
  refine lv_aload_n hx hb dX0_setNudging_23 rfl (lv_at hl 0 rfl) ?_
  refine lv_iload_n hx hb dX0_setNudging_24 rfl (lv_at hl 1 rfl) ?_
  refine va_put (D := D) (ci := 0) (v := .int sp) (ty := .int) (C := RX0) (T := TX0) (N := 12) hx hb hts hiw tyX0 tyX0_ok nmX0 hown hK hP hD hS 0 rfl rfl 9 (by decide) (hts (.fieldLink RX0 38 "TunedWrens" "nudgeSpeed" "I") (by decide +kernel)) (fun _ h9 => h9) rfl (by decide +kernel) rfl rfl (Nat.le_of_ble_eq_true rfl) dX0_setNudging_25 (fun H locs hP hD hS => ?_)
  have hP : va_P D vwCl (wX h d cA z (c.1, c.2.1, sp, c.2.2.2.1, c.2.2.2.2) ++ E) H := hP
  have hD : va_D (zA N0) (wX h d cA z (c.1, c.2.1, sp, c.2.2.2.1, c.2.2.2.2) ++ E) := hD
  refine lv_aload_n hx hb dX0_setNudging_28 rfl (lv_at hl 0 rfl) ?_
  refine lv_iload_n hx hb dX0_setNudging_29 rfl (lv_at hl 2 rfl) ?_
  refine va_put (D := D) (ci := 0) (v := .int le) (ty := .int) (C := RX0) (T := TX0) (N := 12) hx hb hts hiw tyX0 tyX0_ok nmX0 hown hK hP hD hS 0 rfl rfl 10 (by decide) (hts (.fieldLink RX0 41 "TunedWrens" "rungLeash" "I") (by decide +kernel)) (fun _ h9 => h9) rfl (by decide +kernel) rfl rfl (Nat.le_of_ble_eq_true rfl) dX0_setNudging_30 (fun H locs hP hD hS => ?_)
  have hP : va_P D vwCl (wX h d cA z (c.1, c.2.1, sp, le, c.2.2.2.2) ++ E) H := hP
  have hD : va_D (zA N0) (wX h d cA z (c.1, c.2.1, sp, le, c.2.2.2.2) ++ E) := hD
  refine lv_aload_n hx hb dX0_setNudging_33 rfl (lv_at hl 0 rfl) ?_
  refine lv_iload_n hx hb dX0_setNudging_34 rfl (lv_at hl 3 rfl) ?_
  refine va_put (D := D) (ci := 0) (v := .int gl) (ty := .int) (C := RX0) (T := TX0) (N := 12) hx hb hts hiw tyX0 tyX0_ok nmX0 hown hK hP hD hS 0 rfl rfl 11 (by decide) (hts (.fieldLink RX0 44 "TunedWrens" "leapGlide" "I") (by decide +kernel)) (fun _ h9 => h9) rfl (by decide +kernel) rfl rfl (Nat.le_of_ble_eq_true rfl) dX0_setNudging_35 (fun H locs hP hD hS => ?_)
  have hP : va_P D vwCl (wX h d cA z (c.1, c.2.1, sp, le, gl) ++ E) H := hP
  have hD : va_D (zA N0) (wX h d cA z (c.1, c.2.1, sp, le, gl) ++ E) := hD
  exact W.vret hx hb hr (fun t ht hW => ⟨⟨(), rfl, trivial, ⟨by rw [ht]; exact hP, hD⟩⟩, hS.F ht⟩) hS.2.2 dX0_setNudging_38

set_option maxHeartbeats 4000000 in
set_option maxRecDepth 100000 in
theorem c_X0_singFrame (l : Launch) (D : va_G) (N0 : Nat) (cA cL : ClassId) (E : va_W) (h : Nat) (d : Nat → Nat) (z : S7) (c : C5) (w : Int32) (p : Int32) (hc : okC c) (hw : zw w) (hp : zp p) : Met l yX0_singFrame wsX0_singFrame ({ frames := 6, cells := 0, slots := 0, locals := 135 }) (va_Pc [.ref h, .int w, .int p] (zPre D N0 cA cL (wX h d cA z c ++ E))) (va_Qi (fun (rv : Int32) (_ : Unit) => rv = zOut c w.toNatClampNeg p z) (fun _ t => zPost D N0 (wX h d cA (zSg c w.toNatClampNeg p z) c ++ E) t) (zA N0)) 0 0 (zA N0) := by
  refine Met.ofW (cc := cX0_singFrame) (maxL := 7) (ret := (some .int)) (by decide) rfl ?_
  intro pr e s m ag below meth cd s₁ B hml hv
  obtain ⟨rfl, hN, hP, hD, hK, hE⟩ := hv
  have hx := B.exec
  have hb := B.bytes
  have hr := B.returns
  have hts := atoms_spec (ws := wsX0_singFrame) B.pre
  have hown : s.vm.findClass RX0 = some m.cls := findClass_of_methodNamed B.named
  have hlocks := B.notSynchronized
  have hS : va_S (zA N0) s.heap s.heap [] := va_S.rf
  have hiw : ∀ w ∈ u_ws RX0 TX0 12, w ∈ wsX0_singFrame := by decide +kernel
  have hl := lv_entry ([.ref h, .int w, .int p]) (n := 7) (Nat.le_of_ble_eq_true rfl)
  rw [lg_entry_eq]
  generalize (lg_sl ([.ref h, .int w, .int p]) ++ List.replicate (7 - (lg_sl ([.ref h, .int w, .int p])).length) Slot.unset).toArray = ls at hl ⊢
  have hl : lv_has ls 7 [(0, .ref h), (1, .int w), (2, .int p)] := hl
  have j115 : ∀ (H : Heap) (locs : List Loc), va_P D vwCl (wX h d cA ((upd z.1 w.toNatClampNeg (zR c w.toNatClampNeg p z)), (upd z.2.1 w.toNatClampNeg (zG c w.toNatClampNeg p z)), (upd z.2.2.1 w.toNatClampNeg (z.2.2.1 w.toNatClampNeg + 1)), (zB (zChg (z.1 w.toNatClampNeg) (zR c w.toNatClampNeg p z)) z.2.2.2.1 w.toNatClampNeg), (zB (zLeap c (z.1 w.toNatClampNeg) (zR c w.toNatClampNeg p z)) z.2.2.2.2.1 w.toNatClampNeg), (zB (¬ zStep c (zOut c w.toNatClampNeg p z) = -1) z.2.2.2.2.2.1 w.toNatClampNeg), z.2.2.2.2.2.2) c ++ E) H → va_D (zA N0) (wX h d cA ((upd z.1 w.toNatClampNeg (zR c w.toNatClampNeg p z)), (upd z.2.1 w.toNatClampNeg (zG c w.toNatClampNeg p z)), (upd z.2.2.1 w.toNatClampNeg (z.2.2.1 w.toNatClampNeg + 1)), (zB (zChg (z.1 w.toNatClampNeg) (zR c w.toNatClampNeg p z)) z.2.2.2.1 w.toNatClampNeg), (zB (zLeap c (z.1 w.toNatClampNeg) (zR c w.toNatClampNeg p z)) z.2.2.2.2.1 w.toNatClampNeg), (zB (¬ zStep c (zOut c w.toNatClampNeg p z) = -1) z.2.2.2.2.2.1 w.toNatClampNeg), z.2.2.2.2.2.2) c ++ E) → va_S (zA N0) s.heap H locs → ∀ (ls : Array Slot), lv_has ls 7 [(6, .int (zOut c w.toNatClampNeg p z)), (5, .int (zG c w.toNatClampNeg p z)), (4, .int (zR c w.toNatClampNeg p z)), (3, .int (z.1 w.toNatClampNeg)), (0, .ref h), (1, .int w), (2, .int p)] → W pr l e (headSpec wsX0_singFrame ({ frames := 6, cells := 0, slots := 0, locals := 135 })).room s m ([.ref h, .int w, .int p] : List Value).toArray below meth cd H locs 0 0 (MQ below (va_Qi (fun (rv : Int32) (_ : Unit) => rv = zOut c w.toNatClampNeg p z) (fun _ t => zPost D N0 (wX h d cA (zSg c w.toNatClampNeg p z) c ++ E) t) (zA N0)) ([.ref h, .int w, .int p] : List Value).toArray s 0 0 (zA N0)) (F0 m 115 ls []) := by
    intro H locs hP hD hS ls hl
    refine lv_aload_n hx hb dX0_singFrame_115 rfl (lv_at hl 4 rfl) ?_
    refine va_get (D := D) (ci := 0) (v := .ref (d 6)) (C := RX0) (T := TX0) (N := 12) hx hb hts hiw hown hK hP 0 rfl rfl 6 (by decide) (hts (.fieldLink RX0 28 "TunedWrens" "framesOfSemitone" "[I") (by decide +kernel)) (fun _ h9 => h9) rfl dX0_singFrame_116 ?_
    refine lv_iload_n hx hb dX0_singFrame_119 rfl (lv_at hl 6 rfl) ?_
    refine vp_callSi ((va_runS (As := [.int p]) (rest := [.ref (d 6)]) ⟨hx, hb, hml, hown, hts⟩ (c_X0_nearestSemitone l p hp) (va_cwS 1 hts gX0_singFrame_X0_nearestSemitone rfl rfl rfl (by decide +kernel) ⟨Nat.le_of_ble_eq_true rfl, Nat.le_of_ble_eq_true rfl⟩) ⟨zT.blind, zT.call⟩ rfl rfl hl.1 rfl (lv_room (Nat.le_of_ble_eq_true rfl)) dX0_singFrame_120 ⟨Nat.zero_le _, Nat.zero_le _⟩).run) (fun r_120 h_120 => ?_)
    have h_120 : r_120 = (nI (zSem p)) := h_120
    subst h_120
    refine lv_dup2_11 hx hb dX0_singFrame_123 rfl rfl ?_
    refine va_iald hx hb hK hP 7 0 rfl rfl (vp_in_nI (zSem_lt p) (by decide)) dX0_singFrame_124 ?_
    refine lv_iconst (v := 1) hx hb dX0_singFrame_125 (by decide) ?_
    refine lv_iadd hx hb dX0_singFrame_126 ?_
    refine va_iast hx hb hK hP hD hS 7 0 rfl rfl (vp_in_nI (zSem_lt p) (by decide)) dX0_singFrame_127 (fun H locs hP hD hS => ?_)
    have hP : va_P D vwCl (wX h d cA ((upd z.1 w.toNatClampNeg (zR c w.toNatClampNeg p z)), (upd z.2.1 w.toNatClampNeg (zG c w.toNatClampNeg p z)), (upd z.2.2.1 w.toNatClampNeg (z.2.2.1 w.toNatClampNeg + 1)), (zB (zChg (z.1 w.toNatClampNeg) (zR c w.toNatClampNeg p z)) z.2.2.2.1 w.toNatClampNeg), (zB (zLeap c (z.1 w.toNatClampNeg) (zR c w.toNatClampNeg p z)) z.2.2.2.2.1 w.toNatClampNeg), (zB (¬ zStep c (zOut c w.toNatClampNeg p z) = -1) z.2.2.2.2.2.1 w.toNatClampNeg), (upd z.2.2.2.2.2.2 (nI (zSem p)).toNatClampNeg ((z.2.2.2.2.2.2 (nI (zSem p)).toNatClampNeg) + 1))) c ++ E) H := hP
    have hD : va_D (zA N0) (wX h d cA ((upd z.1 w.toNatClampNeg (zR c w.toNatClampNeg p z)), (upd z.2.1 w.toNatClampNeg (zG c w.toNatClampNeg p z)), (upd z.2.2.1 w.toNatClampNeg (z.2.2.1 w.toNatClampNeg + 1)), (zB (zChg (z.1 w.toNatClampNeg) (zR c w.toNatClampNeg p z)) z.2.2.2.1 w.toNatClampNeg), (zB (zLeap c (z.1 w.toNatClampNeg) (zR c w.toNatClampNeg p z)) z.2.2.2.2.1 w.toNatClampNeg), (zB (¬ zStep c (zOut c w.toNatClampNeg p z) = -1) z.2.2.2.2.2.1 w.toNatClampNeg), (upd z.2.2.2.2.2.2 (nI (zSem p)).toNatClampNeg ((z.2.2.2.2.2.2 (nI (zSem p)).toNatClampNeg) + 1))) c ++ E) := hD
    refine lv_iload hx hb dX0_singFrame_128 (lv_at hl 0 rfl) ?_
    rw [nI_clamp (show zSem p < 2 ^ 31 by have := zSem_lt p; omega)] at hP hD
    exact W.iret (v := (zOut c w.toNatClampNeg p z)) hx hb hr (fun t ht hW => ⟨⟨_, (), rfl, rfl, ⟨by rw [ht]; exact hP, hD⟩⟩, hS.F ht⟩) hS.2.2 dX0_singFrame_130
  have j96 : ∀ (H : Heap) (locs : List Loc), va_P D vwCl (wX h d cA ((upd z.1 w.toNatClampNeg (zR c w.toNatClampNeg p z)), (upd z.2.1 w.toNatClampNeg (zG c w.toNatClampNeg p z)), (upd z.2.2.1 w.toNatClampNeg (z.2.2.1 w.toNatClampNeg + 1)), (zB (zChg (z.1 w.toNatClampNeg) (zR c w.toNatClampNeg p z)) z.2.2.2.1 w.toNatClampNeg), (zB (zLeap c (z.1 w.toNatClampNeg) (zR c w.toNatClampNeg p z)) z.2.2.2.2.1 w.toNatClampNeg), z.2.2.2.2.2.1, z.2.2.2.2.2.2) c ++ E) H → va_D (zA N0) (wX h d cA ((upd z.1 w.toNatClampNeg (zR c w.toNatClampNeg p z)), (upd z.2.1 w.toNatClampNeg (zG c w.toNatClampNeg p z)), (upd z.2.2.1 w.toNatClampNeg (z.2.2.1 w.toNatClampNeg + 1)), (zB (zChg (z.1 w.toNatClampNeg) (zR c w.toNatClampNeg p z)) z.2.2.2.1 w.toNatClampNeg), (zB (zLeap c (z.1 w.toNatClampNeg) (zR c w.toNatClampNeg p z)) z.2.2.2.2.1 w.toNatClampNeg), z.2.2.2.2.2.1, z.2.2.2.2.2.2) c ++ E) → va_S (zA N0) s.heap H locs → ∀ (ls : Array Slot), lv_has ls 7 [(6, .int (zOut c w.toNatClampNeg p z)), (5, .int (zG c w.toNatClampNeg p z)), (4, .int (zR c w.toNatClampNeg p z)), (3, .int (z.1 w.toNatClampNeg)), (0, .ref h), (1, .int w), (2, .int p)] → W pr l e (headSpec wsX0_singFrame ({ frames := 6, cells := 0, slots := 0, locals := 135 })).room s m ([.ref h, .int w, .int p] : List Value).toArray below meth cd H locs 0 0 (MQ below (va_Qi (fun (rv : Int32) (_ : Unit) => rv = zOut c w.toNatClampNeg p z) (fun _ t => zPost D N0 (wX h d cA (zSg c w.toNatClampNeg p z) c ++ E) t) (zA N0)) ([.ref h, .int w, .int p] : List Value).toArray s 0 0 (zA N0)) (F0 m 96 ls []) := by
    intro H locs hP hD hS ls hl
    refine lv_aload_n hx hb dX0_singFrame_96 rfl (lv_at hl 4 rfl) ?_
    refine lv_iload hx hb dX0_singFrame_97 (lv_at hl 0 rfl) ?_
    refine vp_callSi ((va_runV (As := [.int (zOut c w.toNatClampNeg p z)]) (rest := []) ⟨hx, hb, hml, hown, hts⟩ (c_X0_isRung l D N0 cA cL E h d ((upd z.1 w.toNatClampNeg (zR c w.toNatClampNeg p z)), (upd z.2.1 w.toNatClampNeg (zG c w.toNatClampNeg p z)), (upd z.2.2.1 w.toNatClampNeg (z.2.2.1 w.toNatClampNeg + 1)), (zB (zChg (z.1 w.toNatClampNeg) (zR c w.toNatClampNeg p z)) z.2.2.2.1 w.toNatClampNeg), (zB (zLeap c (z.1 w.toNatClampNeg) (zR c w.toNatClampNeg p z)) z.2.2.2.2.1 w.toNatClampNeg), z.2.2.2.2.2.1, z.2.2.2.2.2.2) c (zOut c w.toNatClampNeg p z) hc) (cwV 1 hts gX0_singFrame_X0_isRung rfl rfl rfl (by decide +kernel) ⟨Nat.le_of_ble_eq_true rfl, Nat.le_of_ble_eq_true rfl⟩) ⟨zPre.blind, va_recv hK hP (ci := 0) (q0 := 0) rfl rfl, zPre.call hN hP hD hK hE hS⟩ rfl rfl hl.1 rfl (lv_room (Nat.le_of_ble_eq_true rfl)) dX0_singFrame_99 ⟨Nat.zero_le _, Nat.zero_le _⟩).run) (fun r_99 h_99 => ?_)
    have h_99 : r_99 = (zb (¬ zStep c (zOut c w.toNatClampNeg p z) = -1)) := h_99
    subst h_99
    refine lv_if_eq (tgt := 115) hx hb dX0_singFrame_102 (by decide) (fun c_102 => ?_) (fun c_102 => ?_)
    · have hP : va_P D vwCl (wX h d cA ((upd z.1 w.toNatClampNeg (zR c w.toNatClampNeg p z)), (upd z.2.1 w.toNatClampNeg (zG c w.toNatClampNeg p z)), (upd z.2.2.1 w.toNatClampNeg (z.2.2.1 w.toNatClampNeg + 1)), (zB (zChg (z.1 w.toNatClampNeg) (zR c w.toNatClampNeg p z)) z.2.2.2.1 w.toNatClampNeg), (zB (zLeap c (z.1 w.toNatClampNeg) (zR c w.toNatClampNeg p z)) z.2.2.2.2.1 w.toNatClampNeg), (zB (¬ zStep c (zOut c w.toNatClampNeg p z) = -1) z.2.2.2.2.2.1 w.toNatClampNeg), z.2.2.2.2.2.2) c ++ E) H := by
        rw [show ((zB (¬ zStep c (zOut c w.toNatClampNeg p z) = -1) z.2.2.2.2.2.1 w.toNatClampNeg) : Nat → Int32) = z.2.2.2.2.2.1 from if_neg (zb_f c_102)]
        exact hP
      have hD : va_D (zA N0) (wX h d cA ((upd z.1 w.toNatClampNeg (zR c w.toNatClampNeg p z)), (upd z.2.1 w.toNatClampNeg (zG c w.toNatClampNeg p z)), (upd z.2.2.1 w.toNatClampNeg (z.2.2.1 w.toNatClampNeg + 1)), (zB (zChg (z.1 w.toNatClampNeg) (zR c w.toNatClampNeg p z)) z.2.2.2.1 w.toNatClampNeg), (zB (zLeap c (z.1 w.toNatClampNeg) (zR c w.toNatClampNeg p z)) z.2.2.2.2.1 w.toNatClampNeg), (zB (¬ zStep c (zOut c w.toNatClampNeg p z) = -1) z.2.2.2.2.2.1 w.toNatClampNeg), z.2.2.2.2.2.2) c ++ E) := by
        rw [show ((zB (¬ zStep c (zOut c w.toNatClampNeg p z) = -1) z.2.2.2.2.2.1 w.toNatClampNeg) : Nat → Int32) = z.2.2.2.2.2.1 from if_neg (zb_f c_102)]
        exact hD
      exact j115 _ _ hP hD hS ls (lv_sub hl [0, 1, 2, 3, 4, 5, 6] rfl)
    · refine lv_aload_n hx hb dX0_singFrame_105 rfl (lv_at hl 4 rfl) ?_
      refine va_get (D := D) (ci := 0) (v := .ref (d 5)) (C := RX0) (T := TX0) (N := 12) hx hb hts hiw hown hK hP 0 rfl rfl 5 (by decide) (hts (.fieldLink RX0 25 "TunedWrens" "cleanOfWren" "[I") (by decide +kernel)) (fun _ h9 => h9) rfl dX0_singFrame_106 ?_
      refine lv_iload_n hx hb dX0_singFrame_109 rfl (lv_at hl 5 rfl) ?_
      refine lv_dup2_11 hx hb dX0_singFrame_110 rfl rfl ?_
      refine va_iald hx hb hK hP 6 0 rfl rfl (zw_in hw) dX0_singFrame_111 ?_
      refine lv_iconst (v := 1) hx hb dX0_singFrame_112 (by decide) ?_
      refine lv_iadd hx hb dX0_singFrame_113 ?_
      refine va_iast hx hb hK hP hD hS 6 0 rfl rfl (zw_in hw) dX0_singFrame_114 (fun H locs hP hD hS => ?_)
      have hP : va_P D vwCl (wX h d cA ((upd z.1 w.toNatClampNeg (zR c w.toNatClampNeg p z)), (upd z.2.1 w.toNatClampNeg (zG c w.toNatClampNeg p z)), (upd z.2.2.1 w.toNatClampNeg (z.2.2.1 w.toNatClampNeg + 1)), (zB (zChg (z.1 w.toNatClampNeg) (zR c w.toNatClampNeg p z)) z.2.2.2.1 w.toNatClampNeg), (zB (zLeap c (z.1 w.toNatClampNeg) (zR c w.toNatClampNeg p z)) z.2.2.2.2.1 w.toNatClampNeg), (upd z.2.2.2.2.2.1 w.toNatClampNeg ((z.2.2.2.2.2.1 w.toNatClampNeg) + 1)), z.2.2.2.2.2.2) c ++ E) H := hP
      have hD : va_D (zA N0) (wX h d cA ((upd z.1 w.toNatClampNeg (zR c w.toNatClampNeg p z)), (upd z.2.1 w.toNatClampNeg (zG c w.toNatClampNeg p z)), (upd z.2.2.1 w.toNatClampNeg (z.2.2.1 w.toNatClampNeg + 1)), (zB (zChg (z.1 w.toNatClampNeg) (zR c w.toNatClampNeg p z)) z.2.2.2.1 w.toNatClampNeg), (zB (zLeap c (z.1 w.toNatClampNeg) (zR c w.toNatClampNeg p z)) z.2.2.2.2.1 w.toNatClampNeg), (upd z.2.2.2.2.2.1 w.toNatClampNeg ((z.2.2.2.2.2.1 w.toNatClampNeg) + 1)), z.2.2.2.2.2.2) c ++ E) := hD
      have hP : va_P D vwCl (wX h d cA ((upd z.1 w.toNatClampNeg (zR c w.toNatClampNeg p z)), (upd z.2.1 w.toNatClampNeg (zG c w.toNatClampNeg p z)), (upd z.2.2.1 w.toNatClampNeg (z.2.2.1 w.toNatClampNeg + 1)), (zB (zChg (z.1 w.toNatClampNeg) (zR c w.toNatClampNeg p z)) z.2.2.2.1 w.toNatClampNeg), (zB (zLeap c (z.1 w.toNatClampNeg) (zR c w.toNatClampNeg p z)) z.2.2.2.2.1 w.toNatClampNeg), (zB (¬ zStep c (zOut c w.toNatClampNeg p z) = -1) z.2.2.2.2.2.1 w.toNatClampNeg), z.2.2.2.2.2.2) c ++ E) H := by
        rw [show ((zB (¬ zStep c (zOut c w.toNatClampNeg p z) = -1) z.2.2.2.2.2.1 w.toNatClampNeg) : Nat → Int32) = (upd z.2.2.2.2.2.1 w.toNatClampNeg ((z.2.2.2.2.2.1 w.toNatClampNeg) + 1)) from if_pos (zb_t c_102)]
        exact hP
      have hD : va_D (zA N0) (wX h d cA ((upd z.1 w.toNatClampNeg (zR c w.toNatClampNeg p z)), (upd z.2.1 w.toNatClampNeg (zG c w.toNatClampNeg p z)), (upd z.2.2.1 w.toNatClampNeg (z.2.2.1 w.toNatClampNeg + 1)), (zB (zChg (z.1 w.toNatClampNeg) (zR c w.toNatClampNeg p z)) z.2.2.2.1 w.toNatClampNeg), (zB (zLeap c (z.1 w.toNatClampNeg) (zR c w.toNatClampNeg p z)) z.2.2.2.2.1 w.toNatClampNeg), (zB (¬ zStep c (zOut c w.toNatClampNeg p z) = -1) z.2.2.2.2.2.1 w.toNatClampNeg), z.2.2.2.2.2.2) c ++ E) := by
        rw [show ((zB (¬ zStep c (zOut c w.toNatClampNeg p z) = -1) z.2.2.2.2.2.1 w.toNatClampNeg) : Nat → Int32) = (upd z.2.2.2.2.2.1 w.toNatClampNeg ((z.2.2.2.2.2.1 w.toNatClampNeg) + 1)) from if_pos (zb_t c_102)]
        exact hD
      exact j115 _ _ hP hD hS ls (lv_sub hl [0, 1, 2, 3, 4, 5, 6] rfl)
  have j76 : ∀ (H : Heap) (locs : List Loc), va_P D vwCl (wX h d cA ((upd z.1 w.toNatClampNeg (zR c w.toNatClampNeg p z)), (upd z.2.1 w.toNatClampNeg (zG c w.toNatClampNeg p z)), (upd z.2.2.1 w.toNatClampNeg (z.2.2.1 w.toNatClampNeg + 1)), (zB (zChg (z.1 w.toNatClampNeg) (zR c w.toNatClampNeg p z)) z.2.2.2.1 w.toNatClampNeg), z.2.2.2.2.1, z.2.2.2.2.2.1, z.2.2.2.2.2.2) c ++ E) H → va_D (zA N0) (wX h d cA ((upd z.1 w.toNatClampNeg (zR c w.toNatClampNeg p z)), (upd z.2.1 w.toNatClampNeg (zG c w.toNatClampNeg p z)), (upd z.2.2.1 w.toNatClampNeg (z.2.2.1 w.toNatClampNeg + 1)), (zB (zChg (z.1 w.toNatClampNeg) (zR c w.toNatClampNeg p z)) z.2.2.2.1 w.toNatClampNeg), z.2.2.2.2.1, z.2.2.2.2.2.1, z.2.2.2.2.2.2) c ++ E) → va_S (zA N0) s.heap H locs → ∀ (ls : Array Slot), lv_has ls 7 [(6, .int (zOut c w.toNatClampNeg p z)), (5, .int (zG c w.toNatClampNeg p z)), (4, .int (zR c w.toNatClampNeg p z)), (3, .int (z.1 w.toNatClampNeg)), (0, .ref h), (1, .int w), (2, .int p)] → W pr l e (headSpec wsX0_singFrame ({ frames := 6, cells := 0, slots := 0, locals := 135 })).room s m ([.ref h, .int w, .int p] : List Value).toArray below meth cd H locs 0 0 (MQ below (va_Qi (fun (rv : Int32) (_ : Unit) => rv = zOut c w.toNatClampNeg p z) (fun _ t => zPost D N0 (wX h d cA (zSg c w.toNatClampNeg p z) c ++ E) t) (zA N0)) ([.ref h, .int w, .int p] : List Value).toArray s 0 0 (zA N0)) (F0 m 76 ls []) := by
    intro H locs hP hD hS ls hl
    refine lv_aload_n hx hb dX0_singFrame_76 rfl (lv_at hl 4 rfl) ?_
    refine lv_iload_n hx hb dX0_singFrame_77 rfl (lv_at hl 3 rfl) ?_
    refine lv_iload hx hb dX0_singFrame_78 (lv_at hl 2 rfl) ?_
    refine vp_callSi ((va_runV (As := [.int (z.1 w.toNatClampNeg), .int (zR c w.toNatClampNeg p z)]) (rest := []) ⟨hx, hb, hml, hown, hts⟩ (c_X0_isLeap l D N0 cA cL E h d ((upd z.1 w.toNatClampNeg (zR c w.toNatClampNeg p z)), (upd z.2.1 w.toNatClampNeg (zG c w.toNatClampNeg p z)), (upd z.2.2.1 w.toNatClampNeg (z.2.2.1 w.toNatClampNeg + 1)), (zB (zChg (z.1 w.toNatClampNeg) (zR c w.toNatClampNeg p z)) z.2.2.2.1 w.toNatClampNeg), z.2.2.2.2.1, z.2.2.2.2.2.1, z.2.2.2.2.2.2) c (z.1 w.toNatClampNeg) (zR c w.toNatClampNeg p z)) (cwV 2 hts gX0_singFrame_X0_isLeap rfl rfl rfl (by decide +kernel) ⟨Nat.le_of_ble_eq_true rfl, Nat.le_of_ble_eq_true rfl⟩) ⟨zPre.blind, va_recv hK hP (ci := 0) (q0 := 0) rfl rfl, zPre.call hN hP hD hK hE hS⟩ rfl rfl hl.1 rfl (lv_room (Nat.le_of_ble_eq_true rfl)) dX0_singFrame_80 ⟨Nat.zero_le _, Nat.zero_le _⟩).run) (fun r_80 h_80 => ?_)
    have h_80 : r_80 = (zb (zLeap c (z.1 w.toNatClampNeg) (zR c w.toNatClampNeg p z))) := h_80
    subst h_80
    refine lv_if_eq (tgt := 96) hx hb dX0_singFrame_83 (by decide) (fun c_83 => ?_) (fun c_83 => ?_)
    · have hP : va_P D vwCl (wX h d cA ((upd z.1 w.toNatClampNeg (zR c w.toNatClampNeg p z)), (upd z.2.1 w.toNatClampNeg (zG c w.toNatClampNeg p z)), (upd z.2.2.1 w.toNatClampNeg (z.2.2.1 w.toNatClampNeg + 1)), (zB (zChg (z.1 w.toNatClampNeg) (zR c w.toNatClampNeg p z)) z.2.2.2.1 w.toNatClampNeg), (zB (zLeap c (z.1 w.toNatClampNeg) (zR c w.toNatClampNeg p z)) z.2.2.2.2.1 w.toNatClampNeg), z.2.2.2.2.2.1, z.2.2.2.2.2.2) c ++ E) H := by
        rw [show ((zB (zLeap c (z.1 w.toNatClampNeg) (zR c w.toNatClampNeg p z)) z.2.2.2.2.1 w.toNatClampNeg) : Nat → Int32) = z.2.2.2.2.1 from if_neg (zb_f c_83)]
        exact hP
      have hD : va_D (zA N0) (wX h d cA ((upd z.1 w.toNatClampNeg (zR c w.toNatClampNeg p z)), (upd z.2.1 w.toNatClampNeg (zG c w.toNatClampNeg p z)), (upd z.2.2.1 w.toNatClampNeg (z.2.2.1 w.toNatClampNeg + 1)), (zB (zChg (z.1 w.toNatClampNeg) (zR c w.toNatClampNeg p z)) z.2.2.2.1 w.toNatClampNeg), (zB (zLeap c (z.1 w.toNatClampNeg) (zR c w.toNatClampNeg p z)) z.2.2.2.2.1 w.toNatClampNeg), z.2.2.2.2.2.1, z.2.2.2.2.2.2) c ++ E) := by
        rw [show ((zB (zLeap c (z.1 w.toNatClampNeg) (zR c w.toNatClampNeg p z)) z.2.2.2.2.1 w.toNatClampNeg) : Nat → Int32) = z.2.2.2.2.1 from if_neg (zb_f c_83)]
        exact hD
      exact j96 _ _ hP hD hS ls (lv_sub hl [0, 1, 2, 3, 4, 5, 6] rfl)
    · refine lv_aload_n hx hb dX0_singFrame_86 rfl (lv_at hl 4 rfl) ?_
      refine va_get (D := D) (ci := 0) (v := .ref (d 4)) (C := RX0) (T := TX0) (N := 12) hx hb hts hiw hown hK hP 0 rfl rfl 4 (by decide) (hts (.fieldLink RX0 22 "TunedWrens" "leapsOfWren" "[I") (by decide +kernel)) (fun _ h9 => h9) rfl dX0_singFrame_87 ?_
      refine lv_iload_n hx hb dX0_singFrame_90 rfl (lv_at hl 5 rfl) ?_
      refine lv_dup2_11 hx hb dX0_singFrame_91 rfl rfl ?_
      refine va_iald hx hb hK hP 5 0 rfl rfl (zw_in hw) dX0_singFrame_92 ?_
      refine lv_iconst (v := 1) hx hb dX0_singFrame_93 (by decide) ?_
      refine lv_iadd hx hb dX0_singFrame_94 ?_
      refine va_iast hx hb hK hP hD hS 5 0 rfl rfl (zw_in hw) dX0_singFrame_95 (fun H locs hP hD hS => ?_)
      have hP : va_P D vwCl (wX h d cA ((upd z.1 w.toNatClampNeg (zR c w.toNatClampNeg p z)), (upd z.2.1 w.toNatClampNeg (zG c w.toNatClampNeg p z)), (upd z.2.2.1 w.toNatClampNeg (z.2.2.1 w.toNatClampNeg + 1)), (zB (zChg (z.1 w.toNatClampNeg) (zR c w.toNatClampNeg p z)) z.2.2.2.1 w.toNatClampNeg), (upd z.2.2.2.2.1 w.toNatClampNeg ((z.2.2.2.2.1 w.toNatClampNeg) + 1)), z.2.2.2.2.2.1, z.2.2.2.2.2.2) c ++ E) H := hP
      have hD : va_D (zA N0) (wX h d cA ((upd z.1 w.toNatClampNeg (zR c w.toNatClampNeg p z)), (upd z.2.1 w.toNatClampNeg (zG c w.toNatClampNeg p z)), (upd z.2.2.1 w.toNatClampNeg (z.2.2.1 w.toNatClampNeg + 1)), (zB (zChg (z.1 w.toNatClampNeg) (zR c w.toNatClampNeg p z)) z.2.2.2.1 w.toNatClampNeg), (upd z.2.2.2.2.1 w.toNatClampNeg ((z.2.2.2.2.1 w.toNatClampNeg) + 1)), z.2.2.2.2.2.1, z.2.2.2.2.2.2) c ++ E) := hD
      have hP : va_P D vwCl (wX h d cA ((upd z.1 w.toNatClampNeg (zR c w.toNatClampNeg p z)), (upd z.2.1 w.toNatClampNeg (zG c w.toNatClampNeg p z)), (upd z.2.2.1 w.toNatClampNeg (z.2.2.1 w.toNatClampNeg + 1)), (zB (zChg (z.1 w.toNatClampNeg) (zR c w.toNatClampNeg p z)) z.2.2.2.1 w.toNatClampNeg), (zB (zLeap c (z.1 w.toNatClampNeg) (zR c w.toNatClampNeg p z)) z.2.2.2.2.1 w.toNatClampNeg), z.2.2.2.2.2.1, z.2.2.2.2.2.2) c ++ E) H := by
        rw [show ((zB (zLeap c (z.1 w.toNatClampNeg) (zR c w.toNatClampNeg p z)) z.2.2.2.2.1 w.toNatClampNeg) : Nat → Int32) = (upd z.2.2.2.2.1 w.toNatClampNeg ((z.2.2.2.2.1 w.toNatClampNeg) + 1)) from if_pos (zb_t c_83)]
        exact hP
      have hD : va_D (zA N0) (wX h d cA ((upd z.1 w.toNatClampNeg (zR c w.toNatClampNeg p z)), (upd z.2.1 w.toNatClampNeg (zG c w.toNatClampNeg p z)), (upd z.2.2.1 w.toNatClampNeg (z.2.2.1 w.toNatClampNeg + 1)), (zB (zChg (z.1 w.toNatClampNeg) (zR c w.toNatClampNeg p z)) z.2.2.2.1 w.toNatClampNeg), (zB (zLeap c (z.1 w.toNatClampNeg) (zR c w.toNatClampNeg p z)) z.2.2.2.2.1 w.toNatClampNeg), z.2.2.2.2.2.1, z.2.2.2.2.2.2) c ++ E) := by
        rw [show ((zB (zLeap c (z.1 w.toNatClampNeg) (zR c w.toNatClampNeg p z)) z.2.2.2.2.1 w.toNatClampNeg) : Nat → Int32) = (upd z.2.2.2.2.1 w.toNatClampNeg ((z.2.2.2.2.1 w.toNatClampNeg) + 1)) from if_pos (zb_t c_83)]
        exact hD
      exact j96 _ _ hP hD hS ls (lv_sub hl [0, 1, 2, 3, 4, 5, 6] rfl)
  refine lv_aload_n hx hb dX0_singFrame_0 rfl (lv_at hl 0 rfl) ?_
  refine va_get (D := D) (ci := 0) (v := .ref (d 0)) (C := RX0) (T := TX0) (N := 12) hx hb hts hiw hown hK hP 0 rfl rfl 0 (by decide) (hts (.fieldLink RX0 9 "TunedWrens" "rungOfWren" "[I") (by decide +kernel)) (fun _ h9 => h9) rfl dX0_singFrame_1 ?_
  refine lv_iload_n hx hb dX0_singFrame_4 rfl (lv_at hl 1 rfl) ?_
  refine va_iald hx hb hK hP 1 0 rfl rfl (zw_in hw) dX0_singFrame_5 ?_
  refine lv_istore_n (lv' := [(3, .int (z.1 w.toNatClampNeg)), (0, .ref h), (1, .int w), (2, .int p)]) hx hb dX0_singFrame_6 rfl hl (by decide) rfl (fun ls hl => ?_)
  refine lv_aload_n hx hb dX0_singFrame_7 rfl (lv_at hl 1 rfl) ?_
  refine lv_iload_n hx hb dX0_singFrame_8 rfl (lv_at hl 0 rfl) ?_
  refine lv_iload_n hx hb dX0_singFrame_9 rfl (lv_at hl 3 rfl) ?_
  refine vp_callSi ((va_runV (As := [.int (z.1 w.toNatClampNeg), .int p]) (rest := []) ⟨hx, hb, hml, hown, hts⟩ (c_X0_nextRung l D N0 cA cL E h d z c (z.1 w.toNatClampNeg) p hc hp) (cwV 2 hts gX0_singFrame_X0_nextRung rfl rfl rfl (by decide +kernel) ⟨Nat.le_of_ble_eq_true rfl, Nat.le_of_ble_eq_true rfl⟩) ⟨zPre.blind, va_recv hK hP (ci := 0) (q0 := 0) rfl rfl, zPre.call hN hP hD hK hE hS⟩ rfl rfl hl.1 rfl (lv_room (Nat.le_of_ble_eq_true rfl)) dX0_singFrame_10 ⟨Nat.zero_le _, Nat.zero_le _⟩).run) (fun r_10 h_10 => ?_)
  have h_10 : r_10 = (zNext c (z.1 w.toNatClampNeg) p) := h_10
  subst h_10
  rw [show ((zNext c (z.1 w.toNatClampNeg) p) : Int32) = (zR c w.toNatClampNeg p z) from rfl]
  refine lv_istore (lv' := [(4, .int (zR c w.toNatClampNeg p z)), (3, .int (z.1 w.toNatClampNeg)), (0, .ref h), (1, .int w), (2, .int p)]) hx hb dX0_singFrame_13 hl (by decide) rfl (fun ls hl => ?_)
  refine lv_aload_n hx hb dX0_singFrame_15 rfl (lv_at hl 2 rfl) ?_
  refine lv_iload_n hx hb dX0_singFrame_16 rfl (lv_at hl 3 rfl) ?_
  refine lv_iload hx hb dX0_singFrame_17 (lv_at hl 0 rfl) ?_
  refine lv_iload_n hx hb dX0_singFrame_19 rfl (lv_at hl 4 rfl) ?_
  refine vp_callSi ((va_runV (As := [.int w, .int (zR c w.toNatClampNeg p z), .int p]) (rest := []) ⟨hx, hb, hml, hown, hts⟩ (c_X0_nextNudge l D N0 cA cL E h d z c w (zR c w.toNatClampNeg p z) p hw) (cwV 3 hts gX0_singFrame_X0_nextNudge rfl rfl rfl (by decide +kernel) ⟨Nat.le_of_ble_eq_true rfl, Nat.le_of_ble_eq_true rfl⟩) ⟨zPre.blind, va_recv hK hP (ci := 0) (q0 := 0) rfl rfl, zPre.call hN hP hD hK hE hS⟩ rfl rfl hl.1 rfl (lv_room (Nat.le_of_ble_eq_true rfl)) dX0_singFrame_20 ⟨Nat.zero_le _, Nat.zero_le _⟩).run) (fun r_20 h_20 => ?_)
  have h_20 : r_20 = (zNud c (z.1 w.toNatClampNeg) (z.2.1 w.toNatClampNeg) (zR c w.toNatClampNeg p z) p) := h_20
  subst h_20
  rw [show ((zNud c (z.1 w.toNatClampNeg) (z.2.1 w.toNatClampNeg) (zR c w.toNatClampNeg p z) p) : Int32) = (zG c w.toNatClampNeg p z) from rfl]
  refine lv_istore (lv' := [(5, .int (zG c w.toNatClampNeg p z)), (4, .int (zR c w.toNatClampNeg p z)), (3, .int (z.1 w.toNatClampNeg)), (0, .ref h), (1, .int w), (2, .int p)]) hx hb dX0_singFrame_23 hl (by decide) rfl (fun ls hl => ?_)
  refine lv_iload_n hx hb dX0_singFrame_25 rfl (lv_at hl 5 rfl) ?_
  refine lv_iload hx hb dX0_singFrame_26 (lv_at hl 0 rfl) ?_
  refine lv_iadd hx hb dX0_singFrame_28 ?_
  rw [show ((p + (zG c w.toNatClampNeg p z)) : Int32) = (zOut c w.toNatClampNeg p z) from rfl]
  refine lv_istore (lv' := [(6, .int (zOut c w.toNatClampNeg p z)), (5, .int (zG c w.toNatClampNeg p z)), (4, .int (zR c w.toNatClampNeg p z)), (3, .int (z.1 w.toNatClampNeg)), (0, .ref h), (1, .int w), (2, .int p)]) hx hb dX0_singFrame_29 hl (by decide) rfl (fun ls hl => ?_)
  refine lv_aload_n hx hb dX0_singFrame_31 rfl (lv_at hl 4 rfl) ?_
  refine va_get (D := D) (ci := 0) (v := .ref (d 0)) (C := RX0) (T := TX0) (N := 12) hx hb hts hiw hown hK hP 0 rfl rfl 0 (by decide) (hts (.fieldLink RX0 9 "TunedWrens" "rungOfWren" "[I") (by decide +kernel)) (fun _ h9 => h9) rfl dX0_singFrame_32 ?_
  refine lv_iload_n hx hb dX0_singFrame_35 rfl (lv_at hl 5 rfl) ?_
  refine lv_iload hx hb dX0_singFrame_36 (lv_at hl 2 rfl) ?_
  refine va_iast hx hb hK hP hD hS 1 0 rfl rfl (zw_in hw) dX0_singFrame_38 (fun H locs hP hD hS => ?_)
  have hP : va_P D vwCl (wX h d cA ((upd z.1 w.toNatClampNeg (zR c w.toNatClampNeg p z)), z.2.1, z.2.2.1, z.2.2.2.1, z.2.2.2.2.1, z.2.2.2.2.2.1, z.2.2.2.2.2.2) c ++ E) H := hP
  have hD : va_D (zA N0) (wX h d cA ((upd z.1 w.toNatClampNeg (zR c w.toNatClampNeg p z)), z.2.1, z.2.2.1, z.2.2.2.1, z.2.2.2.2.1, z.2.2.2.2.2.1, z.2.2.2.2.2.2) c ++ E) := hD
  refine lv_aload_n hx hb dX0_singFrame_39 rfl (lv_at hl 4 rfl) ?_
  refine va_get (D := D) (ci := 0) (v := .ref (d 1)) (C := RX0) (T := TX0) (N := 12) hx hb hts hiw hown hK hP 0 rfl rfl 1 (by decide) (hts (.fieldLink RX0 13 "TunedWrens" "nudgeOfWren" "[I") (by decide +kernel)) (fun _ h9 => h9) rfl dX0_singFrame_40 ?_
  refine lv_iload_n hx hb dX0_singFrame_43 rfl (lv_at hl 5 rfl) ?_
  refine lv_iload hx hb dX0_singFrame_44 (lv_at hl 1 rfl) ?_
  refine va_iast hx hb hK hP hD hS 2 0 rfl rfl (zw_in hw) dX0_singFrame_46 (fun H locs hP hD hS => ?_)
  have hP : va_P D vwCl (wX h d cA ((upd z.1 w.toNatClampNeg (zR c w.toNatClampNeg p z)), (upd z.2.1 w.toNatClampNeg (zG c w.toNatClampNeg p z)), z.2.2.1, z.2.2.2.1, z.2.2.2.2.1, z.2.2.2.2.2.1, z.2.2.2.2.2.2) c ++ E) H := hP
  have hD : va_D (zA N0) (wX h d cA ((upd z.1 w.toNatClampNeg (zR c w.toNatClampNeg p z)), (upd z.2.1 w.toNatClampNeg (zG c w.toNatClampNeg p z)), z.2.2.1, z.2.2.2.1, z.2.2.2.2.1, z.2.2.2.2.2.1, z.2.2.2.2.2.2) c ++ E) := hD
  refine lv_aload_n hx hb dX0_singFrame_47 rfl (lv_at hl 4 rfl) ?_
  refine va_get (D := D) (ci := 0) (v := .ref (d 2)) (C := RX0) (T := TX0) (N := 12) hx hb hts hiw hown hK hP 0 rfl rfl 2 (by decide) (hts (.fieldLink RX0 16 "TunedWrens" "framesOfWren" "[I") (by decide +kernel)) (fun _ h9 => h9) rfl dX0_singFrame_48 ?_
  refine lv_iload_n hx hb dX0_singFrame_51 rfl (lv_at hl 5 rfl) ?_
  refine lv_dup2_11 hx hb dX0_singFrame_52 rfl rfl ?_
  refine va_iald hx hb hK hP 3 0 rfl rfl (zw_in hw) dX0_singFrame_53 ?_
  refine lv_iconst (v := 1) hx hb dX0_singFrame_54 (by decide) ?_
  refine lv_iadd hx hb dX0_singFrame_55 ?_
  refine va_iast hx hb hK hP hD hS 3 0 rfl rfl (zw_in hw) dX0_singFrame_56 (fun H locs hP hD hS => ?_)
  have hP : va_P D vwCl (wX h d cA ((upd z.1 w.toNatClampNeg (zR c w.toNatClampNeg p z)), (upd z.2.1 w.toNatClampNeg (zG c w.toNatClampNeg p z)), (upd z.2.2.1 w.toNatClampNeg ((z.2.2.1 w.toNatClampNeg) + 1)), z.2.2.2.1, z.2.2.2.2.1, z.2.2.2.2.2.1, z.2.2.2.2.2.2) c ++ E) H := hP
  have hD : va_D (zA N0) (wX h d cA ((upd z.1 w.toNatClampNeg (zR c w.toNatClampNeg p z)), (upd z.2.1 w.toNatClampNeg (zG c w.toNatClampNeg p z)), (upd z.2.2.1 w.toNatClampNeg ((z.2.2.1 w.toNatClampNeg) + 1)), z.2.2.2.1, z.2.2.2.2.1, z.2.2.2.2.2.1, z.2.2.2.2.2.2) c ++ E) := hD
  refine lv_iload_n hx hb dX0_singFrame_57 rfl (lv_at hl 3 rfl) ?_
  refine lv_iload hx hb dX0_singFrame_58 (lv_at hl 2 rfl) ?_
  refine vp_callSi ((va_runS (As := [.int (z.1 w.toNatClampNeg), .int (zR c w.toNatClampNeg p z)]) (rest := []) ⟨hx, hb, hml, hown, hts⟩ (c_X0_isChange l (z.1 w.toNatClampNeg) (zR c w.toNatClampNeg p z)) (va_cwS 2 hts gX0_singFrame_X0_isChange rfl rfl rfl (by decide +kernel) ⟨Nat.le_of_ble_eq_true rfl, Nat.le_of_ble_eq_true rfl⟩) ⟨zT.blind, zT.call⟩ rfl rfl hl.1 rfl (lv_room (Nat.le_of_ble_eq_true rfl)) dX0_singFrame_60 ⟨Nat.zero_le _, Nat.zero_le _⟩).run) (fun r_60 h_60 => ?_)
  have h_60 : r_60 = (zb (zChg (z.1 w.toNatClampNeg) (zR c w.toNatClampNeg p z))) := h_60
  subst h_60
  refine lv_if_eq (tgt := 76) hx hb dX0_singFrame_63 (by decide) (fun c_63 => ?_) (fun c_63 => ?_)
  · have hP : va_P D vwCl (wX h d cA ((upd z.1 w.toNatClampNeg (zR c w.toNatClampNeg p z)), (upd z.2.1 w.toNatClampNeg (zG c w.toNatClampNeg p z)), (upd z.2.2.1 w.toNatClampNeg ((z.2.2.1 w.toNatClampNeg) + 1)), (zB (zChg (z.1 w.toNatClampNeg) (zR c w.toNatClampNeg p z)) z.2.2.2.1 w.toNatClampNeg), z.2.2.2.2.1, z.2.2.2.2.2.1, z.2.2.2.2.2.2) c ++ E) H := by
      rw [show ((zB (zChg (z.1 w.toNatClampNeg) (zR c w.toNatClampNeg p z)) z.2.2.2.1 w.toNatClampNeg) : Nat → Int32) = z.2.2.2.1 from if_neg (zb_f c_63)]
      exact hP
    have hD : va_D (zA N0) (wX h d cA ((upd z.1 w.toNatClampNeg (zR c w.toNatClampNeg p z)), (upd z.2.1 w.toNatClampNeg (zG c w.toNatClampNeg p z)), (upd z.2.2.1 w.toNatClampNeg ((z.2.2.1 w.toNatClampNeg) + 1)), (zB (zChg (z.1 w.toNatClampNeg) (zR c w.toNatClampNeg p z)) z.2.2.2.1 w.toNatClampNeg), z.2.2.2.2.1, z.2.2.2.2.2.1, z.2.2.2.2.2.2) c ++ E) := by
      rw [show ((zB (zChg (z.1 w.toNatClampNeg) (zR c w.toNatClampNeg p z)) z.2.2.2.1 w.toNatClampNeg) : Nat → Int32) = z.2.2.2.1 from if_neg (zb_f c_63)]
      exact hD
    exact j76 _ _ hP hD hS ls (lv_sub hl [0, 1, 2, 3, 4, 5, 6] rfl)
  · refine lv_aload_n hx hb dX0_singFrame_66 rfl (lv_at hl 4 rfl) ?_
    refine va_get (D := D) (ci := 0) (v := .ref (d 3)) (C := RX0) (T := TX0) (N := 12) hx hb hts hiw hown hK hP 0 rfl rfl 3 (by decide) (hts (.fieldLink RX0 19 "TunedWrens" "changesOfWren" "[I") (by decide +kernel)) (fun _ h9 => h9) rfl dX0_singFrame_67 ?_
    refine lv_iload_n hx hb dX0_singFrame_70 rfl (lv_at hl 5 rfl) ?_
    refine lv_dup2_11 hx hb dX0_singFrame_71 rfl rfl ?_
    refine va_iald hx hb hK hP 4 0 rfl rfl (zw_in hw) dX0_singFrame_72 ?_
    refine lv_iconst (v := 1) hx hb dX0_singFrame_73 (by decide) ?_
    refine lv_iadd hx hb dX0_singFrame_74 ?_
    refine va_iast hx hb hK hP hD hS 4 0 rfl rfl (zw_in hw) dX0_singFrame_75 (fun H locs hP hD hS => ?_)
    have hP : va_P D vwCl (wX h d cA ((upd z.1 w.toNatClampNeg (zR c w.toNatClampNeg p z)), (upd z.2.1 w.toNatClampNeg (zG c w.toNatClampNeg p z)), (upd z.2.2.1 w.toNatClampNeg ((z.2.2.1 w.toNatClampNeg) + 1)), (upd z.2.2.2.1 w.toNatClampNeg ((z.2.2.2.1 w.toNatClampNeg) + 1)), z.2.2.2.2.1, z.2.2.2.2.2.1, z.2.2.2.2.2.2) c ++ E) H := hP
    have hD : va_D (zA N0) (wX h d cA ((upd z.1 w.toNatClampNeg (zR c w.toNatClampNeg p z)), (upd z.2.1 w.toNatClampNeg (zG c w.toNatClampNeg p z)), (upd z.2.2.1 w.toNatClampNeg ((z.2.2.1 w.toNatClampNeg) + 1)), (upd z.2.2.2.1 w.toNatClampNeg ((z.2.2.2.1 w.toNatClampNeg) + 1)), z.2.2.2.2.1, z.2.2.2.2.2.1, z.2.2.2.2.2.2) c ++ E) := hD
    have hP : va_P D vwCl (wX h d cA ((upd z.1 w.toNatClampNeg (zR c w.toNatClampNeg p z)), (upd z.2.1 w.toNatClampNeg (zG c w.toNatClampNeg p z)), (upd z.2.2.1 w.toNatClampNeg ((z.2.2.1 w.toNatClampNeg) + 1)), (zB (zChg (z.1 w.toNatClampNeg) (zR c w.toNatClampNeg p z)) z.2.2.2.1 w.toNatClampNeg), z.2.2.2.2.1, z.2.2.2.2.2.1, z.2.2.2.2.2.2) c ++ E) H := by
      rw [show ((zB (zChg (z.1 w.toNatClampNeg) (zR c w.toNatClampNeg p z)) z.2.2.2.1 w.toNatClampNeg) : Nat → Int32) = (upd z.2.2.2.1 w.toNatClampNeg ((z.2.2.2.1 w.toNatClampNeg) + 1)) from if_pos (zb_t c_63)]
      exact hP
    have hD : va_D (zA N0) (wX h d cA ((upd z.1 w.toNatClampNeg (zR c w.toNatClampNeg p z)), (upd z.2.1 w.toNatClampNeg (zG c w.toNatClampNeg p z)), (upd z.2.2.1 w.toNatClampNeg ((z.2.2.1 w.toNatClampNeg) + 1)), (zB (zChg (z.1 w.toNatClampNeg) (zR c w.toNatClampNeg p z)) z.2.2.2.1 w.toNatClampNeg), z.2.2.2.2.1, z.2.2.2.2.2.1, z.2.2.2.2.2.2) c ++ E) := by
      rw [show ((zB (zChg (z.1 w.toNatClampNeg) (zR c w.toNatClampNeg p z)) z.2.2.2.1 w.toNatClampNeg) : Nat → Int32) = (upd z.2.2.2.1 w.toNatClampNeg ((z.2.2.2.1 w.toNatClampNeg) + 1)) from if_pos (zb_t c_63)]
      exact hD
    exact j76 _ _ hP hD hS ls (lv_sub hl [0, 1, 2, 3, 4, 5, 6] rfl)

set_option maxHeartbeats 4000000 in
set_option maxRecDepth 100000 in
theorem c_X0_sing_v (l : Launch) (D : va_G) (N0 : Nat) (cA cL : ClassId) (E : va_W) (h : Nat) (d : Nat → Nat) (z : S7) (c : C5) (w : Int32) (p : Int32) (hc : okC c) (hw : zw w) (hp : zp p) : Met l yX0_sing wsX0_sing ({ frames := 7, cells := 0, slots := 0, locals := 161 }) (va_Pc [.ref h, .int w, .int p] (zPre D N0 cA cL (wX h d cA z c ++ E))) (va_Qi (fun (rv : Int32) (_ : Unit) => rv = zOut c w.toNatClampNeg p z) (fun _ t => zPost D N0 (wX h d cA (zSg c w.toNatClampNeg p z) c ++ E) t) (zA N0)) 0 0 (zA N0) := by
  refine Met.ofW (cc := cX0_sing) (maxL := 3) (ret := (some .int)) (by decide) rfl ?_
  intro pr e s m ag below meth cd s₁ B hml hv
  obtain ⟨rfl, hN, hP, hD, hK, hE⟩ := hv
  have hx := B.exec
  have hb := B.bytes
  have hr := B.returns
  have hts := atoms_spec (ws := wsX0_sing) B.pre
  have hown : s.vm.findClass RX0 = some m.cls := findClass_of_methodNamed B.named
  have hlocks := B.notSynchronized
  have hS : va_S (zA N0) s.heap s.heap [] := va_S.rf
  have hl := lv_entry ([.ref h, .int w, .int p]) (n := 3) (Nat.le_of_ble_eq_true rfl)
  rw [lg_entry_eq]
  generalize (lg_sl ([.ref h, .int w, .int p]) ++ List.replicate (3 - (lg_sl ([.ref h, .int w, .int p])).length) Slot.unset).toArray = ls at hl ⊢
  have hl : lv_has ls 3 [(0, .ref h), (1, .int w), (2, .int p)] := hl
  refine lv_iload_n hx hb dX0_sing_0 rfl (lv_at hl 1 rfl) ?_
  refine va_csv ((va_runS (As := [.int w]) (rest := []) ⟨hx, hb, hml, hown, hts⟩ (c_X0_requireWren_v l w hw) (va_cwS 1 hts gX0_sing_X0_requireWren rfl rfl rfl (by decide +kernel) ⟨Nat.le_of_ble_eq_true rfl, Nat.le_of_ble_eq_true rfl⟩) ⟨zT.blind, zT.call⟩ rfl rfl hl.1 rfl (lv_room (Nat.le_of_ble_eq_true rfl)) dX0_sing_1 ⟨Nat.zero_le _, Nat.zero_le _⟩).run) (fun _ => ?_)
  refine lv_iload_n hx hb dX0_sing_4 rfl (lv_at hl 2 rfl) ?_
  refine va_csv ((va_runS (As := [.int p]) (rest := []) ⟨hx, hb, hml, hown, hts⟩ (c_X0_requirePitch_v l p hp) (va_cwS 1 hts gX0_sing_X0_requirePitch rfl rfl rfl (by decide +kernel) ⟨Nat.le_of_ble_eq_true rfl, Nat.le_of_ble_eq_true rfl⟩) ⟨zT.blind, zT.call⟩ rfl rfl hl.1 rfl (lv_room (Nat.le_of_ble_eq_true rfl)) dX0_sing_5 ⟨Nat.zero_le _, Nat.zero_le _⟩).run) (fun _ => ?_)
  refine lv_aload_n hx hb dX0_sing_8 rfl (lv_at hl 0 rfl) ?_
  refine lv_iload_n hx hb dX0_sing_9 rfl (lv_at hl 1 rfl) ?_
  refine lv_iload_n hx hb dX0_sing_10 rfl (lv_at hl 2 rfl) ?_
  refine va_calli (va_runV (As := [.int w, .int p]) (rest := []) ⟨hx, hb, hml, hown, hts⟩ (c_X0_singFrame l D N0 cA cL E h d z c w p hc hw hp) (cwV 2 hts gX0_sing_X0_singFrame rfl rfl rfl (by decide +kernel) ⟨Nat.le_of_ble_eq_true rfl, Nat.le_of_ble_eq_true rfl⟩) ⟨zPre.blind, va_recv hK hP (ci := 0) (q0 := 0) rfl rfl, zPre.call hN hP hD hK hE hS⟩ rfl rfl hl.1 rfl (lv_room (Nat.le_of_ble_eq_true rfl)) dX0_sing_11 ⟨Nat.zero_le _, Nat.zero_le _⟩) hS (fun _ _ h9 => h9) (fun _ h9 => h9) (fun r_11 _ t H locs ht hvm h_11 hB hz1 hk1 hS => ?_)
  have h_11 : r_11 = (zOut c w.toNatClampNeg p z) := h_11
  subst h_11
  obtain ⟨hP, hD⟩ := hB
  rw [ht] at hP
  have hP : va_P D vwCl (wX h d cA (zSg c w.toNatClampNeg p z) c ++ E) H := hP
  have hD : va_D (zA N0) (wX h d cA (zSg c w.toNatClampNeg p z) c ++ E) := hD
  exact W.iret (v := (zOut c w.toNatClampNeg p z)) hx hb hr (fun t ht hW => ⟨⟨_, (), rfl, rfl, ⟨by rw [ht]; exact hP, hD⟩⟩, hS.F ht⟩) hS.2.2 dX0_sing_14

set_option maxHeartbeats 4000000 in
set_option maxRecDepth 100000 in
theorem c_X0_slide_v (l : Launch) (D : va_G) (N0 : Nat) (cA cL : ClassId) (E : va_W) (h : Nat) (d : Nat → Nat) (z : S7) (c : C5) (w a b : Int32) (f : Nat) (hc : okC c) (hw : zw w) (hpa : zp a) (hpb : zp b) (hf : 2 ≤ f) (hf2 : f ≤ 50) : Met l yX0_slide wsX0_slide ({ frames := 7, cells := 0, slots := 0, locals := 161 }) (va_Pc [.ref h, .int w, .int a, .int b, .int (nI f)] (zPre D N0 cA cL (wX h d cA z c ++ E))) (va_Qi (fun (rv : Int32) (_ : Unit) => rv = (zSl c w.toNatClampNeg a b f z f).2.2.2.1 w.toNatClampNeg - z.2.2.2.1 w.toNatClampNeg) (fun _ t => zPost D N0 (wX h d cA (zSl c w.toNatClampNeg a b f z f) c ++ E) t) (zA N0)) 0 0 (zA N0) := by
  refine Met.ofW (cc := cX0_slide) (maxL := 7) (ret := (some .int)) (by decide) rfl ?_
  intro pr e s m ag below meth cd s₁ B hml hv
  obtain ⟨rfl, hN, hP, hD, hK, hE⟩ := hv
  have hx := B.exec
  have hb := B.bytes
  have hr := B.returns
  have hts := atoms_spec (ws := wsX0_slide) B.pre
  have hown : s.vm.findClass RX0 = some m.cls := findClass_of_methodNamed B.named
  have hlocks := B.notSynchronized
  have hS : va_S (zA N0) s.heap s.heap [] := va_S.rf
  have hiw : ∀ w ∈ u_ws RX0 TX0 12, w ∈ wsX0_slide := by decide +kernel
  have hl := lv_entry ([.ref h, .int w, .int a, .int b, .int (nI f)]) (n := 7) (Nat.le_of_ble_eq_true rfl)
  rw [lg_entry_eq]
  generalize (lg_sl ([.ref h, .int w, .int a, .int b, .int (nI f)]) ++ List.replicate (7 - (lg_sl ([.ref h, .int w, .int a, .int b, .int (nI f)])).length) Slot.unset).toArray = ls at hl ⊢
  have hl : lv_has ls 7 [(0, .ref h), (1, .int w), (2, .int a), (3, .int b), (4, .int (nI f))] := hl
  have loop : ∀ (n : Nat) (k : Nat), k ≤ f → f + 1 ≤ k + n → ∀ (H : Heap) (locs : List Loc), va_P D vwCl (wX h d cA ((zSl c w.toNatClampNeg a b f z k)) c ++ E) H → va_D (zA N0) (wX h d cA ((zSl c w.toNatClampNeg a b f z k)) c ++ E) → va_S (zA N0) s.heap H locs → ∀ (ls : Array Slot), lv_has ls 7 [(6, .int (nI k)), (5, .int (z.2.2.2.1 w.toNatClampNeg)), (0, .ref h), (1, .int w), (2, .int a), (3, .int b), (4, .int (nI f))] → W pr l e (headSpec wsX0_slide ({ frames := 7, cells := 0, slots := 0, locals := 161 })).room s m ([.ref h, .int w, .int a, .int b, .int (nI f)] : List Value).toArray below meth cd H locs 0 0 (MQ below (va_Qi (fun (rv : Int32) (_ : Unit) => rv = (zSl c w.toNatClampNeg a b f z f).2.2.2.1 w.toNatClampNeg - z.2.2.2.1 w.toNatClampNeg) (fun _ t => zPost D N0 (wX h d cA (zSl c w.toNatClampNeg a b f z f) c ++ E) t) (zA N0)) ([.ref h, .int w, .int a, .int b, .int (nI f)] : List Value).toArray s 0 0 (zA N0)) (F0 m 31 ls []) := by
    intro n
    induction n with
    | zero =>
      intro k hk hn
      omega
    | succ n ih =>
      intro k hk hn H locs hP hD hS ls hl
      refine lv_iload hx hb dX0_slide_31 (lv_at hl 0 rfl) ?_
      refine lv_iload hx hb dX0_slide_33 (lv_at hl 6 rfl) ?_
      refine lv_icmp_ge (tgt := 65) hx hb dX0_slide_35 (by decide) (fun c_35 => ?_) (fun c_35 => ?_)
      · have hkf : f = k := by have := (nI_leI (by omega) (by omega)).mp c_35; omega
        subst hkf
        refine lv_aload_n hx hb dX0_slide_65 rfl (lv_at hl 2 rfl) ?_
        refine va_get (D := D) (ci := 0) (v := .ref (d 3)) (C := RX0) (T := TX0) (N := 12) hx hb hts hiw hown hK hP 0 rfl rfl 3 (by decide) (hts (.fieldLink RX0 19 "TunedWrens" "changesOfWren" "[I") (by decide +kernel)) (fun _ h9 => h9) rfl dX0_slide_66 ?_
        refine lv_iload_n hx hb dX0_slide_69 rfl (lv_at hl 3 rfl) ?_
        refine va_iald hx hb hK hP 4 0 rfl rfl (zw_in hw) dX0_slide_70 ?_
        refine lv_iload hx hb dX0_slide_71 (lv_at hl 1 rfl) ?_
        refine lv_isub hx hb dX0_slide_73 ?_
        exact W.iret (v := ((((zSl c w.toNatClampNeg a b f z f)).2.2.2.1 w.toNatClampNeg) - (z.2.2.2.1 w.toNatClampNeg))) hx hb hr (fun t ht hW => ⟨⟨_, (), rfl, rfl, ⟨by rw [ht]; exact hP, hD⟩⟩, hS.F ht⟩) hS.2.2 dX0_slide_74
      · have hkf : k < f := by
          rcases Nat.lt_or_ge k f with q | q
          · exact q
          · exact absurd ((nI_leI (by omega) (by omega)).mpr q) c_35
        refine lv_aload_n hx hb dX0_slide_38 rfl (lv_at hl 2 rfl) ?_
        refine lv_iload_n hx hb dX0_slide_39 rfl (lv_at hl 3 rfl) ?_
        refine lv_iload_n hx hb dX0_slide_40 rfl (lv_at hl 4 rfl) ?_
        refine lv_iload_n hx hb dX0_slide_41 rfl (lv_at hl 5 rfl) ?_
        refine lv_iload_n hx hb dX0_slide_42 rfl (lv_at hl 4 rfl) ?_
        refine lv_isub hx hb dX0_slide_43 ?_
        refine lv_iload hx hb dX0_slide_44 (lv_at hl 0 rfl) ?_
        refine lv_imul hx hb dX0_slide_46 ?_
        refine lv_iload hx hb dX0_slide_47 (lv_at hl 6 rfl) ?_
        refine lv_iconst (v := 1) hx hb dX0_slide_49 (by decide) ?_
        refine lv_isub hx hb dX0_slide_50 ?_
        rw [show (((nI f) - 1) : Int32) = (nI (f - 1)) from (pk_sub (b := 1) (by omega))]
        refine vp_callSi ((va_runS (As := [.int ((b - a) * (nI k)), .int (nI (f - 1))]) (rest := [.int a, .int w, .ref h]) ⟨hx, hb, hml, hown, hts⟩ (c_J9_floorDiv_7cf53 l ((b - a) * (nI k)) (f - 1) (by omega) (by omega)) (va_cwS 2 hts gX0_slide_J9_floorDiv_7cf53 rfl rfl rfl (by decide +kernel) ⟨Nat.le_of_ble_eq_true rfl, Nat.le_of_ble_eq_true rfl⟩) ⟨zT.blind, zT.call⟩ rfl rfl hl.1 rfl (lv_room (Nat.le_of_ble_eq_true rfl)) dX0_slide_51 ⟨Nat.zero_le _, Nat.zero_le _⟩).run) (fun r_51 h_51 => ?_)
        have h_51 : r_51 = (zFD ((b - a) * (nI k)) (f - 1)) := h_51
        subst h_51
        refine lv_iadd hx hb dX0_slide_54 ?_
        rw [show ((a + (zFD ((b - a) * (nI k)) (f - 1))) : Int32) = (zPit a b f k) from (zPit_X hpa hpb hf hf2 hkf)]
        refine va_calli (va_runV (As := [.int w, .int (zPit a b f k)]) (rest := []) ⟨hx, hb, hml, hown, hts⟩ (c_X0_singFrame l D N0 cA cL E h d ((zSl c w.toNatClampNeg a b f z k)) c w (zPit a b f k) hc hw (zPit_ok hpa hpb hf hf2 hkf)) (cwV 2 hts gX0_slide_X0_singFrame rfl rfl rfl (by decide +kernel) ⟨Nat.le_of_ble_eq_true rfl, Nat.le_of_ble_eq_true rfl⟩) ⟨zPre.blind, va_recv hK hP (ci := 0) (q0 := 0) rfl rfl, zPre.call hN hP hD hK hE hS⟩ rfl rfl hl.1 rfl (lv_room (Nat.le_of_ble_eq_true rfl)) dX0_slide_55 ⟨Nat.zero_le _, Nat.zero_le _⟩) hS (fun _ _ h9 => h9) (fun _ h9 => h9) (fun r_55 _ t H locs ht hvm h_55 hB hz1 hk1 hS => ?_)
        have h_55 : r_55 = (zOut c w.toNatClampNeg (zPit a b f k) ((zSl c w.toNatClampNeg a b f z k))) := h_55
        subst h_55
        obtain ⟨hP, hD⟩ := hB
        rw [ht] at hP
        have hP : va_P D vwCl (wX h d cA (zSg c w.toNatClampNeg (zPit a b f k) ((zSl c w.toNatClampNeg a b f z k))) c ++ E) H := hP
        have hD : va_D (zA N0) (wX h d cA (zSg c w.toNatClampNeg (zPit a b f k) ((zSl c w.toNatClampNeg a b f z k))) c ++ E) := hD
        refine lv_pop hx hb dX0_slide_58 rfl ?_
        refine lv_iinc (v := (nI (k + 1))) (lv' := [(6, .int (nI (k + 1))), (5, .int (z.2.2.2.1 w.toNatClampNeg)), (0, .ref h), (1, .int w), (2, .int a), (3, .int b), (4, .int (nI f))]) hx hb dX0_slide_59 hl (k := 0) rfl (z_inc k 1) (by decide) rfl (fun ls hl => ?_)
        refine lv_goto (tgt := 31) hx hb dX0_slide_62 (by decide) ?_
        exact ih (k + 1) (by omega) (by omega) _ _ hP hD hS ls (lv_sub hl [0, 1, 2, 3, 4, 5, 6] rfl)
  refine lv_iload_n hx hb dX0_slide_0 rfl (lv_at hl 1 rfl) ?_
  refine va_csv ((va_runS (As := [.int w]) (rest := []) ⟨hx, hb, hml, hown, hts⟩ (c_X0_requireWren_v l w hw) (va_cwS 1 hts gX0_slide_X0_requireWren rfl rfl rfl (by decide +kernel) ⟨Nat.le_of_ble_eq_true rfl, Nat.le_of_ble_eq_true rfl⟩) ⟨zT.blind, zT.call⟩ rfl rfl hl.1 rfl (lv_room (Nat.le_of_ble_eq_true rfl)) dX0_slide_1 ⟨Nat.zero_le _, Nat.zero_le _⟩).run) (fun _ => ?_)
  refine lv_iload_n hx hb dX0_slide_4 rfl (lv_at hl 2 rfl) ?_
  refine va_csv ((va_runS (As := [.int a]) (rest := []) ⟨hx, hb, hml, hown, hts⟩ (c_X0_requirePitch_v l a hpa) (va_cwS 1 hts gX0_slide_X0_requirePitch rfl rfl rfl (by decide +kernel) ⟨Nat.le_of_ble_eq_true rfl, Nat.le_of_ble_eq_true rfl⟩) ⟨zT.blind, zT.call⟩ rfl rfl hl.1 rfl (lv_room (Nat.le_of_ble_eq_true rfl)) dX0_slide_5 ⟨Nat.zero_le _, Nat.zero_le _⟩).run) (fun _ => ?_)
  refine lv_iload_n hx hb dX0_slide_8 rfl (lv_at hl 3 rfl) ?_
  refine va_csv ((va_runS (As := [.int b]) (rest := []) ⟨hx, hb, hml, hown, hts⟩ (c_X0_requirePitch_v l b hpb) (va_cwS 1 hts gX0_slide_X0_requirePitch rfl rfl rfl (by decide +kernel) ⟨Nat.le_of_ble_eq_true rfl, Nat.le_of_ble_eq_true rfl⟩) ⟨zT.blind, zT.call⟩ rfl rfl hl.1 rfl (lv_room (Nat.le_of_ble_eq_true rfl)) dX0_slide_9 ⟨Nat.zero_le _, Nat.zero_le _⟩).run) (fun _ => ?_)
  refine lv_iload hx hb dX0_slide_12 (lv_at hl 4 rfl) ?_
  refine lv_iconst (v := 2) hx hb dX0_slide_14 (by decide) ?_
  refine lv_bipush (v := 50) hx hb dX0_slide_15 (by decide) ?_
  refine va_csv ((va_runS (As := [.int (nI f), .int 2, .int 50]) (rest := []) ⟨hx, hb, hml, hown, hts⟩ (c_X0_requireRange_v l (nI f) 2 50 ⟨(nI_leI (a := 2) (by decide) (by omega)).mpr hf, (nI_leI (b := 50) (by omega) (by decide)).mpr hf2⟩) (va_cwS 3 hts gX0_slide_X0_requireRange rfl rfl rfl (by decide +kernel) ⟨Nat.le_of_ble_eq_true rfl, Nat.le_of_ble_eq_true rfl⟩) ⟨zT.blind, zT.call⟩ rfl rfl hl.1 rfl (lv_room (Nat.le_of_ble_eq_true rfl)) dX0_slide_17 ⟨Nat.zero_le _, Nat.zero_le _⟩).run) (fun _ => ?_)
  refine lv_aload_n hx hb dX0_slide_20 rfl (lv_at hl 0 rfl) ?_
  refine va_get (D := D) (ci := 0) (v := .ref (d 3)) (C := RX0) (T := TX0) (N := 12) hx hb hts hiw hown hK hP 0 rfl rfl 3 (by decide) (hts (.fieldLink RX0 19 "TunedWrens" "changesOfWren" "[I") (by decide +kernel)) (fun _ h9 => h9) rfl dX0_slide_21 ?_
  refine lv_iload_n hx hb dX0_slide_24 rfl (lv_at hl 1 rfl) ?_
  refine va_iald hx hb hK hP 4 0 rfl rfl (zw_in hw) dX0_slide_25 ?_
  refine lv_istore (lv' := [(5, .int (z.2.2.2.1 w.toNatClampNeg)), (0, .ref h), (1, .int w), (2, .int a), (3, .int b), (4, .int (nI f))]) hx hb dX0_slide_26 hl (by decide) rfl (fun ls hl => ?_)
  refine lv_iconst (v := 0) hx hb dX0_slide_28 (by decide) ?_
  refine lv_istore (lv' := [(6, .int 0), (5, .int (z.2.2.2.1 w.toNatClampNeg)), (0, .ref h), (1, .int w), (2, .int a), (3, .int b), (4, .int (nI f))]) hx hb dX0_slide_29 hl (by decide) rfl (fun ls hl => ?_)
  exact loop (f + 1) 0 (Nat.zero_le _) (by omega) _ _ hP hD hS ls (lv_sub hl [0, 1, 2, 3, 4, 5, 6] rfl)

set_option maxHeartbeats 4000000 in
set_option maxRecDepth 100000 in
theorem c_X0_rest_v (l : Launch) (D : va_G) (N0 : Nat) (cA cL : ClassId) (E : va_W) (h : Nat) (d : Nat → Nat) (z : S7) (c : C5) (w : Int32) (hw : zw w) : Met l yX0_rest wsX0_rest ({ frames := 1, cells := 0, slots := 0, locals := 20 }) (va_Pc [.ref h, .int w] (zPre D N0 cA cL (wX h d cA z c ++ E))) (va_Qi (fun (rv : Int32) (_ : Unit) => rv = z.1 w.toNatClampNeg) (fun _ t => zPost D N0 (wX h d cA ((upd z.1 w.toNatClampNeg (-1)), (upd z.2.1 w.toNatClampNeg 0), z.2.2.1, z.2.2.2.1, z.2.2.2.2.1, z.2.2.2.2.2.1, z.2.2.2.2.2.2) c ++ E) t) (zA N0)) 0 0 (zA N0) := by
  refine Met.ofW (cc := cX0_rest) (maxL := 3) (ret := (some .int)) (by decide) rfl ?_
  intro pr e s m ag below meth cd s₁ B hml hv
  obtain ⟨rfl, hN, hP, hD, hK, hE⟩ := hv
  have hx := B.exec
  have hb := B.bytes
  have hr := B.returns
  have hts := atoms_spec (ws := wsX0_rest) B.pre
  have hown : s.vm.findClass RX0 = some m.cls := findClass_of_methodNamed B.named
  have hlocks := B.notSynchronized
  have hS : va_S (zA N0) s.heap s.heap [] := va_S.rf
  have hiw : ∀ w ∈ u_ws RX0 TX0 12, w ∈ wsX0_rest := by decide +kernel
  have hl := lv_entry ([.ref h, .int w]) (n := 3) (Nat.le_of_ble_eq_true rfl)
  rw [lg_entry_eq]
  generalize (lg_sl ([.ref h, .int w]) ++ List.replicate (3 - (lg_sl ([.ref h, .int w])).length) Slot.unset).toArray = ls at hl ⊢
  have hl : lv_has ls 3 [(0, .ref h), (1, .int w)] := hl
  refine lv_iload_n hx hb dX0_rest_0 rfl (lv_at hl 1 rfl) ?_
  refine va_csv ((va_runS (As := [.int w]) (rest := []) ⟨hx, hb, hml, hown, hts⟩ (c_X0_requireWren_v l w hw) (va_cwS 1 hts gX0_rest_X0_requireWren rfl rfl rfl (by decide +kernel) ⟨Nat.le_of_ble_eq_true rfl, Nat.le_of_ble_eq_true rfl⟩) ⟨zT.blind, zT.call⟩ rfl rfl hl.1 rfl (lv_room (Nat.le_of_ble_eq_true rfl)) dX0_rest_1 ⟨Nat.zero_le _, Nat.zero_le _⟩).run) (fun _ => ?_)
  refine lv_aload_n hx hb dX0_rest_4 rfl (lv_at hl 0 rfl) ?_
  refine va_get (D := D) (ci := 0) (v := .ref (d 0)) (C := RX0) (T := TX0) (N := 12) hx hb hts hiw hown hK hP 0 rfl rfl 0 (by decide) (hts (.fieldLink RX0 9 "TunedWrens" "rungOfWren" "[I") (by decide +kernel)) (fun _ h9 => h9) rfl dX0_rest_5 ?_
  refine lv_iload_n hx hb dX0_rest_8 rfl (lv_at hl 1 rfl) ?_
  refine va_iald hx hb hK hP 1 0 rfl rfl (zw_in hw) dX0_rest_9 ?_
  refine lv_istore_n (lv' := [(2, .int (z.1 w.toNatClampNeg)), (0, .ref h), (1, .int w)]) hx hb dX0_rest_10 rfl hl (by decide) rfl (fun ls hl => ?_)
  refine lv_aload_n hx hb dX0_rest_11 rfl (lv_at hl 1 rfl) ?_
  refine va_get (D := D) (ci := 0) (v := .ref (d 0)) (C := RX0) (T := TX0) (N := 12) hx hb hts hiw hown hK hP 0 rfl rfl 0 (by decide) (hts (.fieldLink RX0 9 "TunedWrens" "rungOfWren" "[I") (by decide +kernel)) (fun _ h9 => h9) rfl dX0_rest_12 ?_
  refine lv_iload_n hx hb dX0_rest_15 rfl (lv_at hl 2 rfl) ?_
  refine lv_iconst (v := (-1)) hx hb dX0_rest_16 (by decide) ?_
  refine va_iast hx hb hK hP hD hS 1 0 rfl rfl (zw_in hw) dX0_rest_17 (fun H locs hP hD hS => ?_)
  have hP : va_P D vwCl (wX h d cA ((upd z.1 w.toNatClampNeg (-1)), z.2.1, z.2.2.1, z.2.2.2.1, z.2.2.2.2.1, z.2.2.2.2.2.1, z.2.2.2.2.2.2) c ++ E) H := hP
  have hD : va_D (zA N0) (wX h d cA ((upd z.1 w.toNatClampNeg (-1)), z.2.1, z.2.2.1, z.2.2.2.1, z.2.2.2.2.1, z.2.2.2.2.2.1, z.2.2.2.2.2.2) c ++ E) := hD
  refine lv_aload_n hx hb dX0_rest_18 rfl (lv_at hl 1 rfl) ?_
  refine va_get (D := D) (ci := 0) (v := .ref (d 1)) (C := RX0) (T := TX0) (N := 12) hx hb hts hiw hown hK hP 0 rfl rfl 1 (by decide) (hts (.fieldLink RX0 13 "TunedWrens" "nudgeOfWren" "[I") (by decide +kernel)) (fun _ h9 => h9) rfl dX0_rest_19 ?_
  refine lv_iload_n hx hb dX0_rest_22 rfl (lv_at hl 2 rfl) ?_
  refine lv_iconst (v := 0) hx hb dX0_rest_23 (by decide) ?_
  refine va_iast hx hb hK hP hD hS 2 0 rfl rfl (zw_in hw) dX0_rest_24 (fun H locs hP hD hS => ?_)
  have hP : va_P D vwCl (wX h d cA ((upd z.1 w.toNatClampNeg (-1)), (upd z.2.1 w.toNatClampNeg 0), z.2.2.1, z.2.2.2.1, z.2.2.2.2.1, z.2.2.2.2.2.1, z.2.2.2.2.2.2) c ++ E) H := hP
  have hD : va_D (zA N0) (wX h d cA ((upd z.1 w.toNatClampNeg (-1)), (upd z.2.1 w.toNatClampNeg 0), z.2.2.1, z.2.2.2.1, z.2.2.2.2.1, z.2.2.2.2.2.1, z.2.2.2.2.2.2) c ++ E) := hD
  refine lv_iload_n hx hb dX0_rest_25 rfl (lv_at hl 0 rfl) ?_
  exact W.iret (v := (z.1 w.toNatClampNeg)) hx hb hr (fun t ht hW => ⟨⟨_, (), rfl, rfl, ⟨by rw [ht]; exact hP, hD⟩⟩, hS.F ht⟩) hS.2.2 dX0_rest_26

set_option maxHeartbeats 4000000 in
set_option maxRecDepth 100000 in
theorem c_X0_setScale_v (l : Launch) (D : va_G) (N0 : Nat) (cA cL : ClassId) (E : va_W) (h : Nat) (d : Nat → Nat) (z : S7) (c : C5) (k2 m2 : Nat) (hc : okC c) (hk2 : k2 < 12) (hm2 : m2 < 8) : Met l yX0_setScale wsX0_setScale ({ frames := 4, cells := 0, slots := 0, locals := 89 }) (va_Pc [.ref h, .int (nI k2), .int (nI m2)] (zPre D N0 cA cL (wX h d cA z c ++ E))) (va_Qi (fun (rv : Int32) (_ : Unit) => rv = (zL (k2, m2, c.2.2.1, c.2.2.2.1, c.2.2.2.2) z.1).2) (fun _ t => zPost D N0 (wX h d cA ((zL (k2, m2, c.2.2.1, c.2.2.2.1, c.2.2.2.2) z.1).1, z.2.1, z.2.2.1, z.2.2.2.1, z.2.2.2.2.1, z.2.2.2.2.2.1, z.2.2.2.2.2.2) (k2, m2, c.2.2.1, c.2.2.2.1, c.2.2.2.2) ++ E) t) (zA N0)) 0 0 (zA N0) := by
  refine Met.ofW (cc := cX0_setScale) (maxL := 5) (ret := (some .int)) (by decide) rfl ?_
  intro pr e s m ag below meth cd s₁ B hml hv
  obtain ⟨rfl, hN, hP, hD, hK, hE⟩ := hv
  have hx := B.exec
  have hb := B.bytes
  have hr := B.returns
  have hts := atoms_spec (ws := wsX0_setScale) B.pre
  have hown : s.vm.findClass RX0 = some m.cls := findClass_of_methodNamed B.named
  have hlocks := B.notSynchronized
  have hS : va_S (zA N0) s.heap s.heap [] := va_S.rf
  have hiw : ∀ w ∈ u_ws RX0 TX0 12, w ∈ wsX0_setScale := by decide +kernel
  have hl := lv_entry ([.ref h, .int (nI k2), .int (nI m2)]) (n := 5) (Nat.le_of_ble_eq_true rfl)
  rw [lg_entry_eq]
  generalize (lg_sl ([.ref h, .int (nI k2), .int (nI m2)]) ++ List.replicate (5 - (lg_sl ([.ref h, .int (nI k2), .int (nI m2)])).length) Slot.unset).toArray = ls at hl ⊢
  have hl : lv_has ls 5 [(0, .ref h), (1, .int (nI k2)), (2, .int (nI m2))] := hl
  have hc2 : okC (k2, m2, c.2.2.1, c.2.2.2.1, c.2.2.2.2) := ⟨hk2, hm2, hc.2.2⟩
  have loop : ∀ (n : Nat) (k : Nat), k ≤ 4 → 5 ≤ k + n → ∀ (H : Heap) (locs : List Loc), va_P D vwCl (wX h d cA ((zLn (k2, m2, c.2.2.1, c.2.2.2.1, c.2.2.2.2) z.1 k).1, z.2.1, z.2.2.1, z.2.2.2.1, z.2.2.2.2.1, z.2.2.2.2.2.1, z.2.2.2.2.2.2) (k2, m2, c.2.2.1, c.2.2.2.1, c.2.2.2.2) ++ E) H → va_D (zA N0) (wX h d cA ((zLn (k2, m2, c.2.2.1, c.2.2.2.1, c.2.2.2.2) z.1 k).1, z.2.1, z.2.2.1, z.2.2.2.1, z.2.2.2.2.1, z.2.2.2.2.2.1, z.2.2.2.2.2.2) (k2, m2, c.2.2.1, c.2.2.2.1, c.2.2.2.2) ++ E) → va_S (zA N0) s.heap H locs → ∀ (ls : Array Slot), lv_has ls 5 [(4, .int (nI k)), (3, .int ((zLn (k2, m2, c.2.2.1, c.2.2.2.1, c.2.2.2.2) z.1 k).2)), (0, .ref h), (1, .int (nI k2)), (2, .int (nI m2))] → W pr l e (headSpec wsX0_setScale ({ frames := 4, cells := 0, slots := 0, locals := 89 })).room s m ([.ref h, .int (nI k2), .int (nI m2)] : List Value).toArray below meth cd H locs 0 0 (MQ below (va_Qi (fun (rv : Int32) (_ : Unit) => rv = (zL (k2, m2, c.2.2.1, c.2.2.2.1, c.2.2.2.2) z.1).2) (fun _ t => zPost D N0 (wX h d cA ((zL (k2, m2, c.2.2.1, c.2.2.2.1, c.2.2.2.2) z.1).1, z.2.1, z.2.2.1, z.2.2.2.1, z.2.2.2.2.1, z.2.2.2.2.2.1, z.2.2.2.2.2.2) (k2, m2, c.2.2.1, c.2.2.2.1, c.2.2.2.2) ++ E) t) (zA N0)) ([.ref h, .int (nI k2), .int (nI m2)] : List Value).toArray s 0 0 (zA N0)) (F0 m 29 ls []) := by
    intro n
    induction n with
    | zero =>
      intro k hk hn
      omega
    | succ n ih =>
      intro k hk hn H locs hP hD hS ls hl
      refine lv_iload hx hb dX0_setScale_29 (lv_at hl 0 rfl) ?_
      refine lv_iconst (v := 4) hx hb dX0_setScale_31 (by decide) ?_
      refine lv_icmp_ge (tgt := 77) hx hb dX0_setScale_32 (by decide) (fun c_32 => ?_) (fun c_32 => ?_)
      · have hk4 : k = 4 := by have := (nI_leI (a := 4) (by decide) (by omega)).mp c_32; omega
        subst hk4
        refine lv_iload_n hx hb dX0_setScale_77 rfl (lv_at hl 1 rfl) ?_
        exact W.iret (v := (zLn (k2, m2, c.2.2.1, c.2.2.2.1, c.2.2.2.2) z.1 4).2) hx hb hr (fun t ht hW => ⟨⟨_, (), rfl, rfl, ⟨by rw [ht]; exact hP, hD⟩⟩, hS.F ht⟩) hS.2.2 dX0_setScale_78
      · have hk4 : k < 4 := by
          rcases Nat.lt_or_ge k 4 with q | q
          · exact q
          · exact absurd ((nI_leI (a := 4) (by decide) (by omega)).mpr q) c_32
        refine lv_aload_n hx hb dX0_setScale_35 rfl (lv_at hl 2 rfl) ?_
        refine va_get (D := D) (ci := 0) (v := .ref (d 0)) (C := RX0) (T := TX0) (N := 12) hx hb hts hiw hown hK hP 0 rfl rfl 0 (by decide) (hts (.fieldLink RX0 9 "TunedWrens" "rungOfWren" "[I") (by decide +kernel)) (fun _ h9 => h9) rfl dX0_setScale_36 ?_
        refine lv_iload hx hb dX0_setScale_39 (lv_at hl 0 rfl) ?_
        refine va_iald hx hb hK hP 1 0 rfl rfl (vp_in_nI hk4 (by decide)) dX0_setScale_41 ?_
        rw [show (((zLn (k2, m2, c.2.2.1, c.2.2.2.1, c.2.2.2.2) z.1 k).1 (nI k).toNatClampNeg) : Int32) = ((zLn (k2, m2, c.2.2.1, c.2.2.2.1, c.2.2.2.2) z.1 k).1 k) from (by rw [nI_clamp (by omega)])]
        refine lv_iconst (v := (-1)) hx hb dX0_setScale_42 (by decide) ?_
        refine lv_icmp_eq (tgt := 71) hx hb dX0_setScale_43 (by decide) (fun c_43 => ?_) (fun c_43 => ?_)
        · refine lv_iinc (v := (nI (k + 1))) (lv' := [(4, .int (nI (k + 1))), (3, .int ((zLn (k2, m2, c.2.2.1, c.2.2.2.1, c.2.2.2.2) z.1 k).2)), (0, .ref h), (1, .int (nI k2)), (2, .int (nI m2))]) hx hb dX0_setScale_71 hl (k := 0) rfl (z_inc k 1) (by decide) rfl (fun ls hl => ?_)
          refine lv_goto (tgt := 29) hx hb dX0_setScale_74 (by decide) ?_
          have hl : lv_has ls 5 [(4, .int (nI (k + 1))), (3, .int ((zLn (k2, m2, c.2.2.1, c.2.2.2.1, c.2.2.2.2) z.1 (k + 1)).2)), (0, .ref h), (1, .int (nI k2)), (2, .int (nI m2))] := by
            rw [show ((zLn (k2, m2, c.2.2.1, c.2.2.2.1, c.2.2.2.2) z.1 (k + 1)).2 : Int32) = (zLn (k2, m2, c.2.2.1, c.2.2.2.1, c.2.2.2.2) z.1 k).2 from (by rw [zLn_0 (fun q => q.1 c_43)])]
            exact hl
          have hP : va_P D vwCl (wX h d cA ((zLn (k2, m2, c.2.2.1, c.2.2.2.1, c.2.2.2.2) z.1 (k + 1)).1, z.2.1, z.2.2.1, z.2.2.2.1, z.2.2.2.2.1, z.2.2.2.2.2.1, z.2.2.2.2.2.2) (k2, m2, c.2.2.1, c.2.2.2.1, c.2.2.2.2) ++ E) H := by
            rw [show ((zLn (k2, m2, c.2.2.1, c.2.2.2.1, c.2.2.2.2) z.1 (k + 1)).1 : Nat → Int32) = (zLn (k2, m2, c.2.2.1, c.2.2.2.1, c.2.2.2.2) z.1 k).1 from (by rw [zLn_0 (fun q => q.1 c_43)])]
            exact hP
          have hD : va_D (zA N0) (wX h d cA ((zLn (k2, m2, c.2.2.1, c.2.2.2.1, c.2.2.2.2) z.1 (k + 1)).1, z.2.1, z.2.2.1, z.2.2.2.1, z.2.2.2.2.1, z.2.2.2.2.2.1, z.2.2.2.2.2.2) (k2, m2, c.2.2.1, c.2.2.2.1, c.2.2.2.2) ++ E) := by
            rw [show ((zLn (k2, m2, c.2.2.1, c.2.2.2.1, c.2.2.2.2) z.1 (k + 1)).1 : Nat → Int32) = (zLn (k2, m2, c.2.2.1, c.2.2.2.1, c.2.2.2.2) z.1 k).1 from (by rw [zLn_0 (fun q => q.1 c_43)])]
            exact hD
          exact ih (k + 1) (by omega) (by omega) _ _ hP hD hS ls (lv_sub hl [0, 1, 2, 3, 4] rfl)
        · refine lv_aload_n hx hb dX0_setScale_46 rfl (lv_at hl 2 rfl) ?_
          refine lv_aload_n hx hb dX0_setScale_47 rfl (lv_at hl 2 rfl) ?_
          refine va_get (D := D) (ci := 0) (v := .ref (d 0)) (C := RX0) (T := TX0) (N := 12) hx hb hts hiw hown hK hP 0 rfl rfl 0 (by decide) (hts (.fieldLink RX0 9 "TunedWrens" "rungOfWren" "[I") (by decide +kernel)) (fun _ h9 => h9) rfl dX0_setScale_48 ?_
          refine lv_iload hx hb dX0_setScale_51 (lv_at hl 0 rfl) ?_
          refine va_iald hx hb hK hP 1 0 rfl rfl (vp_in_nI hk4 (by decide)) dX0_setScale_53 ?_
          rw [show (((zLn (k2, m2, c.2.2.1, c.2.2.2.1, c.2.2.2.2) z.1 k).1 (nI k).toNatClampNeg) : Int32) = ((zLn (k2, m2, c.2.2.1, c.2.2.2.1, c.2.2.2.2) z.1 k).1 k) from (by rw [nI_clamp (by omega)])]
          refine vp_callSi ((va_runV (As := [.int ((zLn (k2, m2, c.2.2.1, c.2.2.2.1, c.2.2.2.2) z.1 k).1 k)]) (rest := []) ⟨hx, hb, hml, hown, hts⟩ (c_X0_isRung l D N0 cA cL E h d ((zLn (k2, m2, c.2.2.1, c.2.2.2.1, c.2.2.2.2) z.1 k).1, z.2.1, z.2.2.1, z.2.2.2.1, z.2.2.2.2.1, z.2.2.2.2.2.1, z.2.2.2.2.2.2) (k2, m2, c.2.2.1, c.2.2.2.1, c.2.2.2.2) ((zLn (k2, m2, c.2.2.1, c.2.2.2.1, c.2.2.2.2) z.1 k).1 k) hc2) (cwV 1 hts gX0_setScale_X0_isRung rfl rfl rfl (by decide +kernel) ⟨Nat.le_of_ble_eq_true rfl, Nat.le_of_ble_eq_true rfl⟩) ⟨zPre.blind, va_recv hK hP (ci := 0) (q0 := 0) rfl rfl, zPre.call hN hP hD hK hE hS⟩ rfl rfl hl.1 rfl (lv_room (Nat.le_of_ble_eq_true rfl)) dX0_setScale_54 ⟨Nat.zero_le _, Nat.zero_le _⟩).run) (fun r_54 h_54 => ?_)
          have h_54 : r_54 = (zb (¬ zStep (k2, m2, c.2.2.1, c.2.2.2.1, c.2.2.2.2) ((zLn (k2, m2, c.2.2.1, c.2.2.2.1, c.2.2.2.2) z.1 k).1 k) = -1)) := h_54
          subst h_54
          refine lv_if_ne (tgt := 71) hx hb dX0_setScale_57 (by decide) (fun c_57 => ?_) (fun c_57 => ?_)
          · refine lv_iinc (v := (nI (k + 1))) (lv' := [(4, .int (nI (k + 1))), (3, .int ((zLn (k2, m2, c.2.2.1, c.2.2.2.1, c.2.2.2.2) z.1 k).2)), (0, .ref h), (1, .int (nI k2)), (2, .int (nI m2))]) hx hb dX0_setScale_71 hl (k := 0) rfl (z_inc k 1) (by decide) rfl (fun ls hl => ?_)
            refine lv_goto (tgt := 29) hx hb dX0_setScale_74 (by decide) ?_
            have hl : lv_has ls 5 [(4, .int (nI (k + 1))), (3, .int ((zLn (k2, m2, c.2.2.1, c.2.2.2.1, c.2.2.2.2) z.1 (k + 1)).2)), (0, .ref h), (1, .int (nI k2)), (2, .int (nI m2))] := by
              rw [show ((zLn (k2, m2, c.2.2.1, c.2.2.2.1, c.2.2.2.2) z.1 (k + 1)).2 : Int32) = (zLn (k2, m2, c.2.2.1, c.2.2.2.1, c.2.2.2.2) z.1 k).2 from (by rw [zLn_0 (fun q => zb_t c_57 q.2)])]
              exact hl
            have hP : va_P D vwCl (wX h d cA ((zLn (k2, m2, c.2.2.1, c.2.2.2.1, c.2.2.2.2) z.1 (k + 1)).1, z.2.1, z.2.2.1, z.2.2.2.1, z.2.2.2.2.1, z.2.2.2.2.2.1, z.2.2.2.2.2.2) (k2, m2, c.2.2.1, c.2.2.2.1, c.2.2.2.2) ++ E) H := by
              rw [show ((zLn (k2, m2, c.2.2.1, c.2.2.2.1, c.2.2.2.2) z.1 (k + 1)).1 : Nat → Int32) = (zLn (k2, m2, c.2.2.1, c.2.2.2.1, c.2.2.2.2) z.1 k).1 from (by rw [zLn_0 (fun q => zb_t c_57 q.2)])]
              exact hP
            have hD : va_D (zA N0) (wX h d cA ((zLn (k2, m2, c.2.2.1, c.2.2.2.1, c.2.2.2.2) z.1 (k + 1)).1, z.2.1, z.2.2.1, z.2.2.2.1, z.2.2.2.2.1, z.2.2.2.2.2.1, z.2.2.2.2.2.2) (k2, m2, c.2.2.1, c.2.2.2.1, c.2.2.2.2) ++ E) := by
              rw [show ((zLn (k2, m2, c.2.2.1, c.2.2.2.1, c.2.2.2.2) z.1 (k + 1)).1 : Nat → Int32) = (zLn (k2, m2, c.2.2.1, c.2.2.2.1, c.2.2.2.2) z.1 k).1 from (by rw [zLn_0 (fun q => zb_t c_57 q.2)])]
              exact hD
            exact ih (k + 1) (by omega) (by omega) _ _ hP hD hS ls (lv_sub hl [0, 1, 2, 3, 4] rfl)
          · refine lv_aload_n hx hb dX0_setScale_60 rfl (lv_at hl 2 rfl) ?_
            refine va_get (D := D) (ci := 0) (v := .ref (d 0)) (C := RX0) (T := TX0) (N := 12) hx hb hts hiw hown hK hP 0 rfl rfl 0 (by decide) (hts (.fieldLink RX0 9 "TunedWrens" "rungOfWren" "[I") (by decide +kernel)) (fun _ h9 => h9) rfl dX0_setScale_61 ?_
            refine lv_iload hx hb dX0_setScale_64 (lv_at hl 0 rfl) ?_
            refine lv_iconst (v := (-1)) hx hb dX0_setScale_66 (by decide) ?_
            refine va_iast hx hb hK hP hD hS 1 0 rfl rfl (vp_in_nI hk4 (by decide)) dX0_setScale_67 (fun H locs hP hD hS => ?_)
            have hP : va_P D vwCl (wX h d cA ((upd ((zLn (k2, m2, c.2.2.1, c.2.2.2.1, c.2.2.2.2) z.1 k).1) (nI k).toNatClampNeg (-1)), z.2.1, z.2.2.1, z.2.2.2.1, z.2.2.2.2.1, z.2.2.2.2.2.1, z.2.2.2.2.2.2) (k2, m2, c.2.2.1, c.2.2.2.1, c.2.2.2.2) ++ E) H := hP
            have hD : va_D (zA N0) (wX h d cA ((upd ((zLn (k2, m2, c.2.2.1, c.2.2.2.1, c.2.2.2.2) z.1 k).1) (nI k).toNatClampNeg (-1)), z.2.1, z.2.2.1, z.2.2.2.1, z.2.2.2.2.1, z.2.2.2.2.2.1, z.2.2.2.2.2.2) (k2, m2, c.2.2.1, c.2.2.2.1, c.2.2.2.2) ++ E) := hD
            refine lv_iinc (v := ((zLn (k2, m2, c.2.2.1, c.2.2.2.1, c.2.2.2.2) z.1 k).2 + 1)) (lv' := [(3, .int ((zLn (k2, m2, c.2.2.1, c.2.2.2.1, c.2.2.2.2) z.1 k).2 + 1)), (4, .int (nI k)), (0, .ref h), (1, .int (nI k2)), (2, .int (nI m2))]) hx hb dX0_setScale_68 hl (k := 1) rfl rfl (by decide) rfl (fun ls hl => ?_)
            refine lv_iinc (v := (nI (k + 1))) (lv' := [(4, .int (nI (k + 1))), (3, .int ((zLn (k2, m2, c.2.2.1, c.2.2.2.1, c.2.2.2.2) z.1 k).2 + 1)), (0, .ref h), (1, .int (nI k2)), (2, .int (nI m2))]) hx hb dX0_setScale_71 hl (k := 1) rfl (z_inc k 1) (by decide) rfl (fun ls hl => ?_)
            refine lv_goto (tgt := 29) hx hb dX0_setScale_74 (by decide) ?_
            have hl : lv_has ls 5 [(4, .int (nI (k + 1))), (3, .int ((zLn (k2, m2, c.2.2.1, c.2.2.2.1, c.2.2.2.2) z.1 (k + 1)).2)), (0, .ref h), (1, .int (nI k2)), (2, .int (nI m2))] := by
              rw [show ((zLn (k2, m2, c.2.2.1, c.2.2.2.1, c.2.2.2.2) z.1 (k + 1)).2 : Int32) = ((zLn (k2, m2, c.2.2.1, c.2.2.2.1, c.2.2.2.2) z.1 k).2 + 1) from (by rw [zLn_1 c_43 (Decidable.not_not.mp (zb_f c_57))])]
              exact hl
            have hP : va_P D vwCl (wX h d cA ((zLn (k2, m2, c.2.2.1, c.2.2.2.1, c.2.2.2.2) z.1 (k + 1)).1, z.2.1, z.2.2.1, z.2.2.2.1, z.2.2.2.2.1, z.2.2.2.2.2.1, z.2.2.2.2.2.2) (k2, m2, c.2.2.1, c.2.2.2.1, c.2.2.2.2) ++ E) H := by
              rw [show ((zLn (k2, m2, c.2.2.1, c.2.2.2.1, c.2.2.2.2) z.1 (k + 1)).1 : Nat → Int32) = (upd ((zLn (k2, m2, c.2.2.1, c.2.2.2.1, c.2.2.2.2) z.1 k).1) (nI k).toNatClampNeg (-1)) from (by rw [zLn_1 c_43 (Decidable.not_not.mp (zb_f c_57)), nI_clamp (show k < 2 ^ 31 by omega)])]
              exact hP
            have hD : va_D (zA N0) (wX h d cA ((zLn (k2, m2, c.2.2.1, c.2.2.2.1, c.2.2.2.2) z.1 (k + 1)).1, z.2.1, z.2.2.1, z.2.2.2.1, z.2.2.2.2.1, z.2.2.2.2.2.1, z.2.2.2.2.2.2) (k2, m2, c.2.2.1, c.2.2.2.1, c.2.2.2.2) ++ E) := by
              rw [show ((zLn (k2, m2, c.2.2.1, c.2.2.2.1, c.2.2.2.2) z.1 (k + 1)).1 : Nat → Int32) = (upd ((zLn (k2, m2, c.2.2.1, c.2.2.2.1, c.2.2.2.2) z.1 k).1) (nI k).toNatClampNeg (-1)) from (by rw [zLn_1 c_43 (Decidable.not_not.mp (zb_f c_57)), nI_clamp (show k < 2 ^ 31 by omega)])]
              exact hD
            exact ih (k + 1) (by omega) (by omega) _ _ hP hD hS ls (lv_sub hl [0, 1, 2, 3, 4] rfl)
  refine lv_iload_n hx hb dX0_setScale_0 rfl (lv_at hl 1 rfl) ?_
  refine lv_iconst (v := 0) hx hb dX0_setScale_1 (by decide) ?_
  refine lv_bipush (v := 11) hx hb dX0_setScale_2 (by decide) ?_
  refine va_csv ((va_runS (As := [.int (nI k2), .int 0, .int 11]) (rest := []) ⟨hx, hb, hml, hown, hts⟩ (c_X0_requireRange_v l (nI k2) 0 11 (zn_in (n := 11) (by omega) (by decide))) (va_cwS 3 hts gX0_setScale_X0_requireRange rfl rfl rfl (by decide +kernel) ⟨Nat.le_of_ble_eq_true rfl, Nat.le_of_ble_eq_true rfl⟩) ⟨zT.blind, zT.call⟩ rfl rfl hl.1 rfl (lv_room (Nat.le_of_ble_eq_true rfl)) dX0_setScale_4 ⟨Nat.zero_le _, Nat.zero_le _⟩).run) (fun _ => ?_)
  refine lv_iload_n hx hb dX0_setScale_7 rfl (lv_at hl 2 rfl) ?_
  refine lv_iconst (v := 0) hx hb dX0_setScale_8 (by decide) ?_
  refine lv_bipush (v := 7) hx hb dX0_setScale_9 (by decide) ?_
  refine va_csv ((va_runS (As := [.int (nI m2), .int 0, .int 7]) (rest := []) ⟨hx, hb, hml, hown, hts⟩ (c_X0_requireRange_v l (nI m2) 0 7 (zn_in (n := 7) (by omega) (by decide))) (va_cwS 3 hts gX0_setScale_X0_requireRange rfl rfl rfl (by decide +kernel) ⟨Nat.le_of_ble_eq_true rfl, Nat.le_of_ble_eq_true rfl⟩) ⟨zT.blind, zT.call⟩ rfl rfl hl.1 rfl (lv_room (Nat.le_of_ble_eq_true rfl)) dX0_setScale_11 ⟨Nat.zero_le _, Nat.zero_le _⟩).run) (fun _ => ?_)
  refine lv_aload_n hx hb dX0_setScale_14 rfl (lv_at hl 0 rfl) ?_
  refine lv_iload_n hx hb dX0_setScale_15 rfl (lv_at hl 1 rfl) ?_
  refine va_put (D := D) (ci := 0) (v := .int (nI k2)) (ty := .int) (C := RX0) (T := TX0) (N := 12) hx hb hts hiw tyX0 tyX0_ok nmX0 hown hK hP hD hS 0 rfl rfl 7 (by decide) (hts (.fieldLink RX0 31 "TunedWrens" "scaleKey" "I") (by decide +kernel)) (fun _ h9 => h9) rfl (by decide +kernel) rfl rfl (Nat.le_of_ble_eq_true rfl) dX0_setScale_16 (fun H locs hP hD hS => ?_)
  have hP : va_P D vwCl (wX h d cA z (k2, c.2.1, c.2.2.1, c.2.2.2.1, c.2.2.2.2) ++ E) H := hP
  have hD : va_D (zA N0) (wX h d cA z (k2, c.2.1, c.2.2.1, c.2.2.2.1, c.2.2.2.2) ++ E) := hD
  refine lv_aload_n hx hb dX0_setScale_19 rfl (lv_at hl 0 rfl) ?_
  refine lv_iload_n hx hb dX0_setScale_20 rfl (lv_at hl 2 rfl) ?_
  refine va_put (D := D) (ci := 0) (v := .int (nI m2)) (ty := .int) (C := RX0) (T := TX0) (N := 12) hx hb hts hiw tyX0 tyX0_ok nmX0 hown hK hP hD hS 0 rfl rfl 8 (by decide) (hts (.fieldLink RX0 35 "TunedWrens" "scaleMode" "I") (by decide +kernel)) (fun _ h9 => h9) rfl (by decide +kernel) rfl rfl (Nat.le_of_ble_eq_true rfl) dX0_setScale_21 (fun H locs hP hD hS => ?_)
  have hP : va_P D vwCl (wX h d cA z (k2, m2, c.2.2.1, c.2.2.2.1, c.2.2.2.2) ++ E) H := hP
  have hD : va_D (zA N0) (wX h d cA z (k2, m2, c.2.2.1, c.2.2.2.1, c.2.2.2.2) ++ E) := hD
  refine lv_iconst (v := 0) hx hb dX0_setScale_24 (by decide) ?_
  refine lv_istore_n (lv' := [(3, .int 0), (0, .ref h), (1, .int (nI k2)), (2, .int (nI m2))]) hx hb dX0_setScale_25 rfl hl (by decide) rfl (fun ls hl => ?_)
  refine lv_iconst (v := 0) hx hb dX0_setScale_26 (by decide) ?_
  refine lv_istore (lv' := [(4, .int 0), (3, .int 0), (0, .ref h), (1, .int (nI k2)), (2, .int (nI m2))]) hx hb dX0_setScale_27 hl (by decide) rfl (fun ls hl => ?_)
  exact loop 5 0 (by decide) (by decide) _ _ hP hD hS ls (lv_sub hl [0, 1, 2, 3, 4] rfl)
