theorem z_sub1 (a b : Int32) : a - (b + 1) = a - b + Int32.ofInt (-1) := by
  rw [Int32.sub_eq_add_neg, Int32.sub_eq_add_neg, Int32.neg_add, Int32.sub_eq_add_neg, ← Int32.add_assoc]
  rfl
theorem z_sub0 {a b : Int32} (h : a - b = 0) : a = b := by
  have h1 := Int32.sub_eq_iff_eq_add.mp h
  rw [Int32.zero_add] at h1
  exact h1
theorem z_subn {a b : Int32} (h : ¬ a - b = 0) : ¬ a = b := fun q => h (by rw [q]; exact Int32.sub_self b)
theorem zRgn_1 {c : C5} {num : Int32} {k : Nat} (h : ¬ zStep c (nI (100 * k)) < 0 ∧ num = zRcn c k) : zRgn c num (k + 1) = nI (100 * k) := if_pos h
theorem zRgn_s {c : C5} {num : Int32} {k : Nat} (h : ¬ (¬ zStep c (nI (100 * k)) < 0 ∧ num = zRcn c k)) : zRgn c num (k + 1) = zRgn c num k := if_neg h
theorem zu_t (f : Nat → Int32) (i : Nat) (x y : Int32) : upd (upd f i x) i y = upd f i y := by
  funext k
  by_cases hk : k = i
  · rw [hk, pk_us, pk_us]
  · rw [pk_un hk, pk_un hk, pk_un hk]
theorem zu_s (f : Nat → Int32) (i : Nat) : upd f i (f i) = f := by
  funext k
  by_cases hk : k = i
  · rw [hk, pk_us]
  · rw [pk_un hk]
theorem z_remS {x : Int32} : (x - x / 1200 * 1200 = 0) ↔ (1200 : Int) ∣ x.toInt := by
  have hr := z_rem x (d := 1200) (by decide) (by decide)
  have e : x - x / 1200 * 1200 = x - x / nI 1200 * nI 1200 := rfl
  rw [e]
  constructor
  · intro h
    rw [h] at hr
    exact Int.dvd_of_tmod_eq_zero hr.symm
  · intro h
    rw [fa_eq, hr]
    exact Int.tmod_eq_zero_of_dvd h
theorem zOct_M {a b : Int32} (ha : a = -1 ∨ (0 ≤ a ∧ a ≤ 12000)) (hb : b = -1 ∨ (0 ≤ b ∧ b ≤ 12000)) : (¬ a < 0 ∧ ¬ b < 0 ∧ (a - b) - (a - b) / 1200 * 1200 = 0) ↔ zOct b a := by
  have k1 : ∀ x : Int32, (x = -1 ∨ (0 ≤ x ∧ x ≤ 12000)) → (¬ x < 0 ↔ ¬ x = -1) := by
    intro x hx
    rcases hx with q | ⟨q, -⟩
    · rw [q]; decide
    · exact ⟨fun h e => h (by rw [e]; decide), fun _ h => absurd h (Int32.not_lt.mpr q)⟩
  rw [k1 a ha, k1 b hb]
  have key : ∀ x y : Int32, (x = -1 ∨ (0 ≤ x ∧ x ≤ 12000)) → (y = -1 ∨ (0 ≤ y ∧ y ≤ 12000)) → (x - y).toInt = x.toInt - y.toInt := by
    intro x y hx hy
    have e0 : (0 : Int32).toInt = 0 := rfl
    have e1 : (-1 : Int32).toInt = -1 := rfl
    have e2 : (12000 : Int32).toInt = 12000 := rfl
    have b1 : -1 ≤ x.toInt ∧ x.toInt ≤ 12000 := by
      rcases hx with q | ⟨q, q2⟩
      · rw [q, e1]; omega
      · rw [fa_le] at q q2; omega
    have b2 : -1 ≤ y.toInt ∧ y.toInt ≤ 12000 := by
      rcases hy with q | ⟨q, q2⟩
      · rw [q, e1]; omega
      · rw [fa_le] at q q2; omega
    exact fb_subI (by omega) (by omega)
  have h1 : ((a - b) - (a - b) / 1200 * 1200 = 0) ↔ ((b - a) - (b - a) / 1200 * 1200 = 0) := by
    rw [z_remS, z_remS, key a b ha hb, key b a hb ha]
    omega
  rw [h1]
  exact ⟨fun h => ⟨h.2.1, h.1, h.2.2⟩, fun h => ⟨h.2.1, h.1, h.2.2⟩⟩

set_option maxHeartbeats 4000000 in
set_option maxRecDepth 100000 in
theorem c_X1_rungOf_v (l : Launch) (D : va_G) (N0 : Nat) (cA cL : ClassId) (E : va_W) (h : Nat) (d : Nat → Nat) (th : Int32) (z : S7) (c : C5) (w : Int32) (hw : zw w) : Met l yX1_rungOf wsX1_rungOf ({ frames := 2, cells := 0, slots := 0, locals := 42 }) (va_Pc [.ref h, .int w] (zPre D N0 cA cL (wM h d cA (th) z c ++ E))) (va_Qi (fun (rv : Int32) (_ : Unit) => rv = z.1 w.toNatClampNeg) (fun _ t => zPost D N0 (wM h d cA (0) z c ++ E) t) (zA N0)) 0 0 (zA N0) := by
  refine Met.ofW (cc := cX1_rungOf) (maxL := 2) (ret := (some .int)) (by decide) rfl ?_
  intro pr e s m ag below meth cd s₁ B hml hv
  obtain ⟨rfl, hN, hP, hD, hK, hE⟩ := hv
  have hx := B.exec
  have hb := B.bytes
  have hr := B.returns
  have hts := atoms_spec (ws := wsX1_rungOf) B.pre
  have hown : s.vm.findClass RX1 = some m.cls := findClass_of_methodNamed B.named
  have hlocks := B.notSynchronized
  have hS : va_S (zA N0) s.heap s.heap [] := va_S.rf
  have hiw : ∀ w ∈ u_ws RX1 TX1 13, w ∈ wsX1_rungOf := by decide +kernel
  have hl := lv_entry ([.ref h, .int w]) (n := 2) (Nat.le_of_ble_eq_true rfl)
  rw [lg_entry_eq]
  generalize (lg_sl ([.ref h, .int w]) ++ List.replicate (2 - (lg_sl ([.ref h, .int w])).length) Slot.unset).toArray = ls at hl ⊢
  have hl : lv_has ls 2 [(0, .ref h), (1, .int w)] := hl
  refine lv_aload_n hx hb dX1_rungOf_0 rfl (lv_at hl 0 rfl) ?_
  refine lv_iload_n hx hb dX1_rungOf_1 rfl (lv_at hl 1 rfl) ?_
  refine vp_callSi ((va_runS (As := [.int w]) (rest := [.ref h]) ⟨hx, hb, hml, hown, hts⟩ (c_X1_isWren l w) (va_cwS 1 hts gX1_rungOf_X1_isWren rfl rfl rfl (by decide +kernel) ⟨Nat.le_of_ble_eq_true rfl, Nat.le_of_ble_eq_true rfl⟩) ⟨zT.blind, zT.call⟩ rfl rfl hl.1 rfl (lv_room (Nat.le_of_ble_eq_true rfl)) dX1_rungOf_2 ⟨Nat.zero_le _, Nat.zero_le _⟩).run) (fun r_2 h_2 => ?_)
  have h_2 : r_2 = (zb (zw w)) := h_2
  subst h_2
  refine lv_if_eq (tgt := 12) hx hb dX1_rungOf_5 (by decide) (fun c_5 => ?_) (fun c_5 => ?_)
  · exact absurd hw (zb_f c_5)
  · refine lv_iconst (v := 0) hx hb dX1_rungOf_8 (by decide) ?_
    refine lv_goto (tgt := 13) hx hb dX1_rungOf_9 (by decide) ?_
    refine va_calli (va_runV (As := [.int 0]) (rest := []) ⟨hx, hb, hml, hown, hts⟩ (c_X1_holds_0 l D N0 cA cL E h d (th) z c) (cwV 1 hts gX1_rungOf_X1_holds rfl rfl rfl (by decide +kernel) ⟨Nat.le_of_ble_eq_true rfl, Nat.le_of_ble_eq_true rfl⟩) ⟨zPre.blind, va_recv hK hP (ci := 1) (q0 := 0) rfl rfl, zPre.call hN hP hD hK hE hS⟩ rfl rfl hl.1 rfl (lv_room (Nat.le_of_ble_eq_true rfl)) dX1_rungOf_13 ⟨Nat.zero_le _, Nat.zero_le _⟩) hS (fun _ _ h9 => h9) (fun _ h9 => h9) (fun r_13 _ t H locs ht hvm h_13 hB hz1 hk1 hS => ?_)
    have h_13 : r_13 = 1 := h_13
    subst h_13
    obtain ⟨hP, hD⟩ := hB
    rw [ht] at hP
    have hP : va_P D vwCl (wM h d cA (0) z c ++ E) H := hP
    have hD : va_D (zA N0) (wM h d cA (0) z c ++ E) := hD
    refine lv_if_eq (tgt := 28) hx hb dX1_rungOf_16 (by decide) (fun c_16 => absurd c_16 (by decide)) (fun _ => ?_)
    refine lv_aload_n hx hb dX1_rungOf_19 rfl (lv_at hl 0 rfl) ?_
    refine va_get (D := D) (ci := 1) (v := .ref (d 0)) (C := RX1) (T := TX1) (N := 13) hx hb hts hiw hown hK hP 0 rfl rfl 6 (by decide) (hts (.fieldLink RX1 19 "TunedWrensModel" "rungs" "[I") (by decide +kernel)) (fun _ h9 => h9) rfl dX1_rungOf_20 ?_
    refine lv_iload_n hx hb dX1_rungOf_23 rfl (lv_at hl 1 rfl) ?_
    refine va_iald hx hb hK hP 1 0 rfl rfl (zw_in hw) dX1_rungOf_24 ?_
    refine lv_goto (tgt := 29) hx hb dX1_rungOf_25 (by decide) ?_
    exact W.iret (v := (z.1 w.toNatClampNeg)) hx hb hr (fun t ht hW => ⟨⟨_, (), rfl, rfl, ⟨by rw [ht]; exact hP, hD⟩⟩, hS.F ht⟩) hS.2.2 dX1_rungOf_29

set_option maxHeartbeats 4000000 in
set_option maxRecDepth 100000 in
theorem c_X1_rungOf_1 (l : Launch) (D : va_G) (N0 : Nat) (cA cL : ClassId) (E : va_W) (h : Nat) (d : Nat → Nat) (th : Int32) (z : S7) (c : C5) (w : Int32) (hw : ¬ zw w) : Met l yX1_rungOf wsX1_rungOf ({ frames := 2, cells := 0, slots := 0, locals := 42 }) (va_Pc [.ref h, .int w] (zPre D N0 cA cL (wM h d cA (th) z c ++ E))) (va_Qi (fun (rv : Int32) (_ : Unit) => rv = 0) (fun _ t => zPost D N0 (wM h d cA (1) z c ++ E) t) (zA N0)) 0 0 (zA N0) := by
  refine Met.ofW (cc := cX1_rungOf) (maxL := 2) (ret := (some .int)) (by decide) rfl ?_
  intro pr e s m ag below meth cd s₁ B hml hv
  obtain ⟨rfl, hN, hP, hD, hK, hE⟩ := hv
  have hx := B.exec
  have hb := B.bytes
  have hr := B.returns
  have hts := atoms_spec (ws := wsX1_rungOf) B.pre
  have hown : s.vm.findClass RX1 = some m.cls := findClass_of_methodNamed B.named
  have hlocks := B.notSynchronized
  have hS : va_S (zA N0) s.heap s.heap [] := va_S.rf
  have hiw : ∀ w ∈ u_ws RX1 TX1 13, w ∈ wsX1_rungOf := by decide +kernel
  have hl := lv_entry ([.ref h, .int w]) (n := 2) (Nat.le_of_ble_eq_true rfl)
  rw [lg_entry_eq]
  generalize (lg_sl ([.ref h, .int w]) ++ List.replicate (2 - (lg_sl ([.ref h, .int w])).length) Slot.unset).toArray = ls at hl ⊢
  have hl : lv_has ls 2 [(0, .ref h), (1, .int w)] := hl
  refine lv_aload_n hx hb dX1_rungOf_0 rfl (lv_at hl 0 rfl) ?_
  refine lv_iload_n hx hb dX1_rungOf_1 rfl (lv_at hl 1 rfl) ?_
  refine vp_callSi ((va_runS (As := [.int w]) (rest := [.ref h]) ⟨hx, hb, hml, hown, hts⟩ (c_X1_isWren l w) (va_cwS 1 hts gX1_rungOf_X1_isWren rfl rfl rfl (by decide +kernel) ⟨Nat.le_of_ble_eq_true rfl, Nat.le_of_ble_eq_true rfl⟩) ⟨zT.blind, zT.call⟩ rfl rfl hl.1 rfl (lv_room (Nat.le_of_ble_eq_true rfl)) dX1_rungOf_2 ⟨Nat.zero_le _, Nat.zero_le _⟩).run) (fun r_2 h_2 => ?_)
  have h_2 : r_2 = (zb (zw w)) := h_2
  subst h_2
  refine lv_if_eq (tgt := 12) hx hb dX1_rungOf_5 (by decide) (fun c_5 => ?_) (fun c_5 => ?_)
  · refine lv_iconst (v := 1) hx hb dX1_rungOf_12 (by decide) ?_
    refine va_calli (va_runV (As := [.int 1]) (rest := []) ⟨hx, hb, hml, hown, hts⟩ (c_X1_holds_n l D N0 cA cL E h d (th) z c 1 (by decide)) (cwV 1 hts gX1_rungOf_X1_holds rfl rfl rfl (by decide +kernel) ⟨Nat.le_of_ble_eq_true rfl, Nat.le_of_ble_eq_true rfl⟩) ⟨zPre.blind, va_recv hK hP (ci := 1) (q0 := 0) rfl rfl, zPre.call hN hP hD hK hE hS⟩ rfl rfl hl.1 rfl (lv_room (Nat.le_of_ble_eq_true rfl)) dX1_rungOf_13 ⟨Nat.zero_le _, Nat.zero_le _⟩) hS (fun _ _ h9 => h9) (fun _ h9 => h9) (fun r_13 _ t H locs ht hvm h_13 hB hz1 hk1 hS => ?_)
    have h_13 : r_13 = 0 := h_13
    subst h_13
    obtain ⟨hP, hD⟩ := hB
    rw [ht] at hP
    have hP : va_P D vwCl (wM h d cA (1) z c ++ E) H := hP
    have hD : va_D (zA N0) (wM h d cA (1) z c ++ E) := hD
    refine lv_if_eq (tgt := 28) hx hb dX1_rungOf_16 (by decide) (fun _ => ?_) (fun c_16 => absurd c_16 (by decide))
    refine lv_iconst (v := 0) hx hb dX1_rungOf_28 (by decide) ?_
    exact W.iret (v := 0) hx hb hr (fun t ht hW => ⟨⟨_, (), rfl, rfl, ⟨by rw [ht]; exact hP, hD⟩⟩, hS.F ht⟩) hS.2.2 dX1_rungOf_29
  · exact absurd (zb_t c_5) hw

set_option maxHeartbeats 4000000 in
set_option maxRecDepth 100000 in
theorem c_X1_nudgeOf_v (l : Launch) (D : va_G) (N0 : Nat) (cA cL : ClassId) (E : va_W) (h : Nat) (d : Nat → Nat) (th : Int32) (z : S7) (c : C5) (w : Int32) (hw : zw w) : Met l yX1_nudgeOf wsX1_nudgeOf ({ frames := 2, cells := 0, slots := 0, locals := 42 }) (va_Pc [.ref h, .int w] (zPre D N0 cA cL (wM h d cA (th) z c ++ E))) (va_Qi (fun (rv : Int32) (_ : Unit) => rv = z.2.1 w.toNatClampNeg) (fun _ t => zPost D N0 (wM h d cA (0) z c ++ E) t) (zA N0)) 0 0 (zA N0) := by
  refine Met.ofW (cc := cX1_nudgeOf) (maxL := 2) (ret := (some .int)) (by decide) rfl ?_
  intro pr e s m ag below meth cd s₁ B hml hv
  obtain ⟨rfl, hN, hP, hD, hK, hE⟩ := hv
  have hx := B.exec
  have hb := B.bytes
  have hr := B.returns
  have hts := atoms_spec (ws := wsX1_nudgeOf) B.pre
  have hown : s.vm.findClass RX1 = some m.cls := findClass_of_methodNamed B.named
  have hlocks := B.notSynchronized
  have hS : va_S (zA N0) s.heap s.heap [] := va_S.rf
  have hiw : ∀ w ∈ u_ws RX1 TX1 13, w ∈ wsX1_nudgeOf := by decide +kernel
  have hl := lv_entry ([.ref h, .int w]) (n := 2) (Nat.le_of_ble_eq_true rfl)
  rw [lg_entry_eq]
  generalize (lg_sl ([.ref h, .int w]) ++ List.replicate (2 - (lg_sl ([.ref h, .int w])).length) Slot.unset).toArray = ls at hl ⊢
  have hl : lv_has ls 2 [(0, .ref h), (1, .int w)] := hl
  refine lv_aload_n hx hb dX1_nudgeOf_0 rfl (lv_at hl 0 rfl) ?_
  refine lv_iload_n hx hb dX1_nudgeOf_1 rfl (lv_at hl 1 rfl) ?_
  refine vp_callSi ((va_runS (As := [.int w]) (rest := [.ref h]) ⟨hx, hb, hml, hown, hts⟩ (c_X1_isWren l w) (va_cwS 1 hts gX1_nudgeOf_X1_isWren rfl rfl rfl (by decide +kernel) ⟨Nat.le_of_ble_eq_true rfl, Nat.le_of_ble_eq_true rfl⟩) ⟨zT.blind, zT.call⟩ rfl rfl hl.1 rfl (lv_room (Nat.le_of_ble_eq_true rfl)) dX1_nudgeOf_2 ⟨Nat.zero_le _, Nat.zero_le _⟩).run) (fun r_2 h_2 => ?_)
  have h_2 : r_2 = (zb (zw w)) := h_2
  subst h_2
  refine lv_if_eq (tgt := 12) hx hb dX1_nudgeOf_5 (by decide) (fun c_5 => ?_) (fun c_5 => ?_)
  · exact absurd hw (zb_f c_5)
  · refine lv_iconst (v := 0) hx hb dX1_nudgeOf_8 (by decide) ?_
    refine lv_goto (tgt := 13) hx hb dX1_nudgeOf_9 (by decide) ?_
    refine va_calli (va_runV (As := [.int 0]) (rest := []) ⟨hx, hb, hml, hown, hts⟩ (c_X1_holds_0 l D N0 cA cL E h d (th) z c) (cwV 1 hts gX1_nudgeOf_X1_holds rfl rfl rfl (by decide +kernel) ⟨Nat.le_of_ble_eq_true rfl, Nat.le_of_ble_eq_true rfl⟩) ⟨zPre.blind, va_recv hK hP (ci := 1) (q0 := 0) rfl rfl, zPre.call hN hP hD hK hE hS⟩ rfl rfl hl.1 rfl (lv_room (Nat.le_of_ble_eq_true rfl)) dX1_nudgeOf_13 ⟨Nat.zero_le _, Nat.zero_le _⟩) hS (fun _ _ h9 => h9) (fun _ h9 => h9) (fun r_13 _ t H locs ht hvm h_13 hB hz1 hk1 hS => ?_)
    have h_13 : r_13 = 1 := h_13
    subst h_13
    obtain ⟨hP, hD⟩ := hB
    rw [ht] at hP
    have hP : va_P D vwCl (wM h d cA (0) z c ++ E) H := hP
    have hD : va_D (zA N0) (wM h d cA (0) z c ++ E) := hD
    refine lv_if_eq (tgt := 28) hx hb dX1_nudgeOf_16 (by decide) (fun c_16 => absurd c_16 (by decide)) (fun _ => ?_)
    refine lv_aload_n hx hb dX1_nudgeOf_19 rfl (lv_at hl 0 rfl) ?_
    refine va_get (D := D) (ci := 1) (v := .ref (d 1)) (C := RX1) (T := TX1) (N := 13) hx hb hts hiw hown hK hP 0 rfl rfl 7 (by decide) (hts (.fieldLink RX1 23 "TunedWrensModel" "nudges" "[I") (by decide +kernel)) (fun _ h9 => h9) rfl dX1_nudgeOf_20 ?_
    refine lv_iload_n hx hb dX1_nudgeOf_23 rfl (lv_at hl 1 rfl) ?_
    refine va_iald hx hb hK hP 2 0 rfl rfl (zw_in hw) dX1_nudgeOf_24 ?_
    refine lv_goto (tgt := 29) hx hb dX1_nudgeOf_25 (by decide) ?_
    exact W.iret (v := (z.2.1 w.toNatClampNeg)) hx hb hr (fun t ht hW => ⟨⟨_, (), rfl, rfl, ⟨by rw [ht]; exact hP, hD⟩⟩, hS.F ht⟩) hS.2.2 dX1_nudgeOf_29

set_option maxHeartbeats 4000000 in
set_option maxRecDepth 100000 in
theorem c_X1_nudgeOf_1 (l : Launch) (D : va_G) (N0 : Nat) (cA cL : ClassId) (E : va_W) (h : Nat) (d : Nat → Nat) (th : Int32) (z : S7) (c : C5) (w : Int32) (hw : ¬ zw w) : Met l yX1_nudgeOf wsX1_nudgeOf ({ frames := 2, cells := 0, slots := 0, locals := 42 }) (va_Pc [.ref h, .int w] (zPre D N0 cA cL (wM h d cA (th) z c ++ E))) (va_Qi (fun (rv : Int32) (_ : Unit) => rv = 0) (fun _ t => zPost D N0 (wM h d cA (1) z c ++ E) t) (zA N0)) 0 0 (zA N0) := by
  refine Met.ofW (cc := cX1_nudgeOf) (maxL := 2) (ret := (some .int)) (by decide) rfl ?_
  intro pr e s m ag below meth cd s₁ B hml hv
  obtain ⟨rfl, hN, hP, hD, hK, hE⟩ := hv
  have hx := B.exec
  have hb := B.bytes
  have hr := B.returns
  have hts := atoms_spec (ws := wsX1_nudgeOf) B.pre
  have hown : s.vm.findClass RX1 = some m.cls := findClass_of_methodNamed B.named
  have hlocks := B.notSynchronized
  have hS : va_S (zA N0) s.heap s.heap [] := va_S.rf
  have hiw : ∀ w ∈ u_ws RX1 TX1 13, w ∈ wsX1_nudgeOf := by decide +kernel
  have hl := lv_entry ([.ref h, .int w]) (n := 2) (Nat.le_of_ble_eq_true rfl)
  rw [lg_entry_eq]
  generalize (lg_sl ([.ref h, .int w]) ++ List.replicate (2 - (lg_sl ([.ref h, .int w])).length) Slot.unset).toArray = ls at hl ⊢
  have hl : lv_has ls 2 [(0, .ref h), (1, .int w)] := hl
  refine lv_aload_n hx hb dX1_nudgeOf_0 rfl (lv_at hl 0 rfl) ?_
  refine lv_iload_n hx hb dX1_nudgeOf_1 rfl (lv_at hl 1 rfl) ?_
  refine vp_callSi ((va_runS (As := [.int w]) (rest := [.ref h]) ⟨hx, hb, hml, hown, hts⟩ (c_X1_isWren l w) (va_cwS 1 hts gX1_nudgeOf_X1_isWren rfl rfl rfl (by decide +kernel) ⟨Nat.le_of_ble_eq_true rfl, Nat.le_of_ble_eq_true rfl⟩) ⟨zT.blind, zT.call⟩ rfl rfl hl.1 rfl (lv_room (Nat.le_of_ble_eq_true rfl)) dX1_nudgeOf_2 ⟨Nat.zero_le _, Nat.zero_le _⟩).run) (fun r_2 h_2 => ?_)
  have h_2 : r_2 = (zb (zw w)) := h_2
  subst h_2
  refine lv_if_eq (tgt := 12) hx hb dX1_nudgeOf_5 (by decide) (fun c_5 => ?_) (fun c_5 => ?_)
  · refine lv_iconst (v := 1) hx hb dX1_nudgeOf_12 (by decide) ?_
    refine va_calli (va_runV (As := [.int 1]) (rest := []) ⟨hx, hb, hml, hown, hts⟩ (c_X1_holds_n l D N0 cA cL E h d (th) z c 1 (by decide)) (cwV 1 hts gX1_nudgeOf_X1_holds rfl rfl rfl (by decide +kernel) ⟨Nat.le_of_ble_eq_true rfl, Nat.le_of_ble_eq_true rfl⟩) ⟨zPre.blind, va_recv hK hP (ci := 1) (q0 := 0) rfl rfl, zPre.call hN hP hD hK hE hS⟩ rfl rfl hl.1 rfl (lv_room (Nat.le_of_ble_eq_true rfl)) dX1_nudgeOf_13 ⟨Nat.zero_le _, Nat.zero_le _⟩) hS (fun _ _ h9 => h9) (fun _ h9 => h9) (fun r_13 _ t H locs ht hvm h_13 hB hz1 hk1 hS => ?_)
    have h_13 : r_13 = 0 := h_13
    subst h_13
    obtain ⟨hP, hD⟩ := hB
    rw [ht] at hP
    have hP : va_P D vwCl (wM h d cA (1) z c ++ E) H := hP
    have hD : va_D (zA N0) (wM h d cA (1) z c ++ E) := hD
    refine lv_if_eq (tgt := 28) hx hb dX1_nudgeOf_16 (by decide) (fun _ => ?_) (fun c_16 => absurd c_16 (by decide))
    refine lv_iconst (v := 0) hx hb dX1_nudgeOf_28 (by decide) ?_
    exact W.iret (v := 0) hx hb hr (fun t ht hW => ⟨⟨_, (), rfl, rfl, ⟨by rw [ht]; exact hP, hD⟩⟩, hS.F ht⟩) hS.2.2 dX1_nudgeOf_29
  · exact absurd (zb_t c_5) hw

set_option maxHeartbeats 4000000 in
set_option maxRecDepth 100000 in
theorem c_X1_framesOf_v (l : Launch) (D : va_G) (N0 : Nat) (cA cL : ClassId) (E : va_W) (h : Nat) (d : Nat → Nat) (th : Int32) (z : S7) (c : C5) (w : Int32) (hw : zw w) : Met l yX1_framesOf wsX1_framesOf ({ frames := 2, cells := 0, slots := 0, locals := 42 }) (va_Pc [.ref h, .int w] (zPre D N0 cA cL (wM h d cA (th) z c ++ E))) (va_Qi (fun (rv : Int32) (_ : Unit) => rv = z.2.2.1 w.toNatClampNeg) (fun _ t => zPost D N0 (wM h d cA (0) z c ++ E) t) (zA N0)) 0 0 (zA N0) := by
  refine Met.ofW (cc := cX1_framesOf) (maxL := 2) (ret := (some .int)) (by decide) rfl ?_
  intro pr e s m ag below meth cd s₁ B hml hv
  obtain ⟨rfl, hN, hP, hD, hK, hE⟩ := hv
  have hx := B.exec
  have hb := B.bytes
  have hr := B.returns
  have hts := atoms_spec (ws := wsX1_framesOf) B.pre
  have hown : s.vm.findClass RX1 = some m.cls := findClass_of_methodNamed B.named
  have hlocks := B.notSynchronized
  have hS : va_S (zA N0) s.heap s.heap [] := va_S.rf
  have hiw : ∀ w ∈ u_ws RX1 TX1 13, w ∈ wsX1_framesOf := by decide +kernel
  have hl := lv_entry ([.ref h, .int w]) (n := 2) (Nat.le_of_ble_eq_true rfl)
  rw [lg_entry_eq]
  generalize (lg_sl ([.ref h, .int w]) ++ List.replicate (2 - (lg_sl ([.ref h, .int w])).length) Slot.unset).toArray = ls at hl ⊢
  have hl : lv_has ls 2 [(0, .ref h), (1, .int w)] := hl
  refine lv_aload_n hx hb dX1_framesOf_0 rfl (lv_at hl 0 rfl) ?_
  refine lv_iload_n hx hb dX1_framesOf_1 rfl (lv_at hl 1 rfl) ?_
  refine vp_callSi ((va_runS (As := [.int w]) (rest := [.ref h]) ⟨hx, hb, hml, hown, hts⟩ (c_X1_isWren l w) (va_cwS 1 hts gX1_framesOf_X1_isWren rfl rfl rfl (by decide +kernel) ⟨Nat.le_of_ble_eq_true rfl, Nat.le_of_ble_eq_true rfl⟩) ⟨zT.blind, zT.call⟩ rfl rfl hl.1 rfl (lv_room (Nat.le_of_ble_eq_true rfl)) dX1_framesOf_2 ⟨Nat.zero_le _, Nat.zero_le _⟩).run) (fun r_2 h_2 => ?_)
  have h_2 : r_2 = (zb (zw w)) := h_2
  subst h_2
  refine lv_if_eq (tgt := 12) hx hb dX1_framesOf_5 (by decide) (fun c_5 => ?_) (fun c_5 => ?_)
  · exact absurd hw (zb_f c_5)
  · refine lv_iconst (v := 0) hx hb dX1_framesOf_8 (by decide) ?_
    refine lv_goto (tgt := 13) hx hb dX1_framesOf_9 (by decide) ?_
    refine va_calli (va_runV (As := [.int 0]) (rest := []) ⟨hx, hb, hml, hown, hts⟩ (c_X1_holds_0 l D N0 cA cL E h d (th) z c) (cwV 1 hts gX1_framesOf_X1_holds rfl rfl rfl (by decide +kernel) ⟨Nat.le_of_ble_eq_true rfl, Nat.le_of_ble_eq_true rfl⟩) ⟨zPre.blind, va_recv hK hP (ci := 1) (q0 := 0) rfl rfl, zPre.call hN hP hD hK hE hS⟩ rfl rfl hl.1 rfl (lv_room (Nat.le_of_ble_eq_true rfl)) dX1_framesOf_13 ⟨Nat.zero_le _, Nat.zero_le _⟩) hS (fun _ _ h9 => h9) (fun _ h9 => h9) (fun r_13 _ t H locs ht hvm h_13 hB hz1 hk1 hS => ?_)
    have h_13 : r_13 = 1 := h_13
    subst h_13
    obtain ⟨hP, hD⟩ := hB
    rw [ht] at hP
    have hP : va_P D vwCl (wM h d cA (0) z c ++ E) H := hP
    have hD : va_D (zA N0) (wM h d cA (0) z c ++ E) := hD
    refine lv_if_eq (tgt := 28) hx hb dX1_framesOf_16 (by decide) (fun c_16 => absurd c_16 (by decide)) (fun _ => ?_)
    refine lv_aload_n hx hb dX1_framesOf_19 rfl (lv_at hl 0 rfl) ?_
    refine va_get (D := D) (ci := 1) (v := .ref (d 2)) (C := RX1) (T := TX1) (N := 13) hx hb hts hiw hown hK hP 0 rfl rfl 8 (by decide) (hts (.fieldLink RX1 26 "TunedWrensModel" "frames" "[I") (by decide +kernel)) (fun _ h9 => h9) rfl dX1_framesOf_20 ?_
    refine lv_iload_n hx hb dX1_framesOf_23 rfl (lv_at hl 1 rfl) ?_
    refine va_iald hx hb hK hP 3 0 rfl rfl (zw_in hw) dX1_framesOf_24 ?_
    refine lv_goto (tgt := 29) hx hb dX1_framesOf_25 (by decide) ?_
    exact W.iret (v := (z.2.2.1 w.toNatClampNeg)) hx hb hr (fun t ht hW => ⟨⟨_, (), rfl, rfl, ⟨by rw [ht]; exact hP, hD⟩⟩, hS.F ht⟩) hS.2.2 dX1_framesOf_29

set_option maxHeartbeats 4000000 in
set_option maxRecDepth 100000 in
theorem c_X1_framesOf_1 (l : Launch) (D : va_G) (N0 : Nat) (cA cL : ClassId) (E : va_W) (h : Nat) (d : Nat → Nat) (th : Int32) (z : S7) (c : C5) (w : Int32) (hw : ¬ zw w) : Met l yX1_framesOf wsX1_framesOf ({ frames := 2, cells := 0, slots := 0, locals := 42 }) (va_Pc [.ref h, .int w] (zPre D N0 cA cL (wM h d cA (th) z c ++ E))) (va_Qi (fun (rv : Int32) (_ : Unit) => rv = 0) (fun _ t => zPost D N0 (wM h d cA (1) z c ++ E) t) (zA N0)) 0 0 (zA N0) := by
  refine Met.ofW (cc := cX1_framesOf) (maxL := 2) (ret := (some .int)) (by decide) rfl ?_
  intro pr e s m ag below meth cd s₁ B hml hv
  obtain ⟨rfl, hN, hP, hD, hK, hE⟩ := hv
  have hx := B.exec
  have hb := B.bytes
  have hr := B.returns
  have hts := atoms_spec (ws := wsX1_framesOf) B.pre
  have hown : s.vm.findClass RX1 = some m.cls := findClass_of_methodNamed B.named
  have hlocks := B.notSynchronized
  have hS : va_S (zA N0) s.heap s.heap [] := va_S.rf
  have hiw : ∀ w ∈ u_ws RX1 TX1 13, w ∈ wsX1_framesOf := by decide +kernel
  have hl := lv_entry ([.ref h, .int w]) (n := 2) (Nat.le_of_ble_eq_true rfl)
  rw [lg_entry_eq]
  generalize (lg_sl ([.ref h, .int w]) ++ List.replicate (2 - (lg_sl ([.ref h, .int w])).length) Slot.unset).toArray = ls at hl ⊢
  have hl : lv_has ls 2 [(0, .ref h), (1, .int w)] := hl
  refine lv_aload_n hx hb dX1_framesOf_0 rfl (lv_at hl 0 rfl) ?_
  refine lv_iload_n hx hb dX1_framesOf_1 rfl (lv_at hl 1 rfl) ?_
  refine vp_callSi ((va_runS (As := [.int w]) (rest := [.ref h]) ⟨hx, hb, hml, hown, hts⟩ (c_X1_isWren l w) (va_cwS 1 hts gX1_framesOf_X1_isWren rfl rfl rfl (by decide +kernel) ⟨Nat.le_of_ble_eq_true rfl, Nat.le_of_ble_eq_true rfl⟩) ⟨zT.blind, zT.call⟩ rfl rfl hl.1 rfl (lv_room (Nat.le_of_ble_eq_true rfl)) dX1_framesOf_2 ⟨Nat.zero_le _, Nat.zero_le _⟩).run) (fun r_2 h_2 => ?_)
  have h_2 : r_2 = (zb (zw w)) := h_2
  subst h_2
  refine lv_if_eq (tgt := 12) hx hb dX1_framesOf_5 (by decide) (fun c_5 => ?_) (fun c_5 => ?_)
  · refine lv_iconst (v := 1) hx hb dX1_framesOf_12 (by decide) ?_
    refine va_calli (va_runV (As := [.int 1]) (rest := []) ⟨hx, hb, hml, hown, hts⟩ (c_X1_holds_n l D N0 cA cL E h d (th) z c 1 (by decide)) (cwV 1 hts gX1_framesOf_X1_holds rfl rfl rfl (by decide +kernel) ⟨Nat.le_of_ble_eq_true rfl, Nat.le_of_ble_eq_true rfl⟩) ⟨zPre.blind, va_recv hK hP (ci := 1) (q0 := 0) rfl rfl, zPre.call hN hP hD hK hE hS⟩ rfl rfl hl.1 rfl (lv_room (Nat.le_of_ble_eq_true rfl)) dX1_framesOf_13 ⟨Nat.zero_le _, Nat.zero_le _⟩) hS (fun _ _ h9 => h9) (fun _ h9 => h9) (fun r_13 _ t H locs ht hvm h_13 hB hz1 hk1 hS => ?_)
    have h_13 : r_13 = 0 := h_13
    subst h_13
    obtain ⟨hP, hD⟩ := hB
    rw [ht] at hP
    have hP : va_P D vwCl (wM h d cA (1) z c ++ E) H := hP
    have hD : va_D (zA N0) (wM h d cA (1) z c ++ E) := hD
    refine lv_if_eq (tgt := 28) hx hb dX1_framesOf_16 (by decide) (fun _ => ?_) (fun c_16 => absurd c_16 (by decide))
    refine lv_iconst (v := 0) hx hb dX1_framesOf_28 (by decide) ?_
    exact W.iret (v := 0) hx hb hr (fun t ht hW => ⟨⟨_, (), rfl, rfl, ⟨by rw [ht]; exact hP, hD⟩⟩, hS.F ht⟩) hS.2.2 dX1_framesOf_29
  · exact absurd (zb_t c_5) hw

set_option maxHeartbeats 4000000 in
set_option maxRecDepth 100000 in
theorem c_X1_changesOf_v (l : Launch) (D : va_G) (N0 : Nat) (cA cL : ClassId) (E : va_W) (h : Nat) (d : Nat → Nat) (th : Int32) (z : S7) (c : C5) (w : Int32) (hw : zw w) : Met l yX1_changesOf wsX1_changesOf ({ frames := 2, cells := 0, slots := 0, locals := 42 }) (va_Pc [.ref h, .int w] (zPre D N0 cA cL (wM h d cA (th) z c ++ E))) (va_Qi (fun (rv : Int32) (_ : Unit) => rv = z.2.2.2.1 w.toNatClampNeg) (fun _ t => zPost D N0 (wM h d cA (0) z c ++ E) t) (zA N0)) 0 0 (zA N0) := by
  refine Met.ofW (cc := cX1_changesOf) (maxL := 2) (ret := (some .int)) (by decide) rfl ?_
  intro pr e s m ag below meth cd s₁ B hml hv
  obtain ⟨rfl, hN, hP, hD, hK, hE⟩ := hv
  have hx := B.exec
  have hb := B.bytes
  have hr := B.returns
  have hts := atoms_spec (ws := wsX1_changesOf) B.pre
  have hown : s.vm.findClass RX1 = some m.cls := findClass_of_methodNamed B.named
  have hlocks := B.notSynchronized
  have hS : va_S (zA N0) s.heap s.heap [] := va_S.rf
  have hiw : ∀ w ∈ u_ws RX1 TX1 13, w ∈ wsX1_changesOf := by decide +kernel
  have hl := lv_entry ([.ref h, .int w]) (n := 2) (Nat.le_of_ble_eq_true rfl)
  rw [lg_entry_eq]
  generalize (lg_sl ([.ref h, .int w]) ++ List.replicate (2 - (lg_sl ([.ref h, .int w])).length) Slot.unset).toArray = ls at hl ⊢
  have hl : lv_has ls 2 [(0, .ref h), (1, .int w)] := hl
  refine lv_aload_n hx hb dX1_changesOf_0 rfl (lv_at hl 0 rfl) ?_
  refine lv_iload_n hx hb dX1_changesOf_1 rfl (lv_at hl 1 rfl) ?_
  refine vp_callSi ((va_runS (As := [.int w]) (rest := [.ref h]) ⟨hx, hb, hml, hown, hts⟩ (c_X1_isWren l w) (va_cwS 1 hts gX1_changesOf_X1_isWren rfl rfl rfl (by decide +kernel) ⟨Nat.le_of_ble_eq_true rfl, Nat.le_of_ble_eq_true rfl⟩) ⟨zT.blind, zT.call⟩ rfl rfl hl.1 rfl (lv_room (Nat.le_of_ble_eq_true rfl)) dX1_changesOf_2 ⟨Nat.zero_le _, Nat.zero_le _⟩).run) (fun r_2 h_2 => ?_)
  have h_2 : r_2 = (zb (zw w)) := h_2
  subst h_2
  refine lv_if_eq (tgt := 12) hx hb dX1_changesOf_5 (by decide) (fun c_5 => ?_) (fun c_5 => ?_)
  · exact absurd hw (zb_f c_5)
  · refine lv_iconst (v := 0) hx hb dX1_changesOf_8 (by decide) ?_
    refine lv_goto (tgt := 13) hx hb dX1_changesOf_9 (by decide) ?_
    refine va_calli (va_runV (As := [.int 0]) (rest := []) ⟨hx, hb, hml, hown, hts⟩ (c_X1_holds_0 l D N0 cA cL E h d (th) z c) (cwV 1 hts gX1_changesOf_X1_holds rfl rfl rfl (by decide +kernel) ⟨Nat.le_of_ble_eq_true rfl, Nat.le_of_ble_eq_true rfl⟩) ⟨zPre.blind, va_recv hK hP (ci := 1) (q0 := 0) rfl rfl, zPre.call hN hP hD hK hE hS⟩ rfl rfl hl.1 rfl (lv_room (Nat.le_of_ble_eq_true rfl)) dX1_changesOf_13 ⟨Nat.zero_le _, Nat.zero_le _⟩) hS (fun _ _ h9 => h9) (fun _ h9 => h9) (fun r_13 _ t H locs ht hvm h_13 hB hz1 hk1 hS => ?_)
    have h_13 : r_13 = 1 := h_13
    subst h_13
    obtain ⟨hP, hD⟩ := hB
    rw [ht] at hP
    have hP : va_P D vwCl (wM h d cA (0) z c ++ E) H := hP
    have hD : va_D (zA N0) (wM h d cA (0) z c ++ E) := hD
    refine lv_if_eq (tgt := 28) hx hb dX1_changesOf_16 (by decide) (fun c_16 => absurd c_16 (by decide)) (fun _ => ?_)
    refine lv_aload_n hx hb dX1_changesOf_19 rfl (lv_at hl 0 rfl) ?_
    refine va_get (D := D) (ci := 1) (v := .ref (d 3)) (C := RX1) (T := TX1) (N := 13) hx hb hts hiw hown hK hP 0 rfl rfl 9 (by decide) (hts (.fieldLink RX1 29 "TunedWrensModel" "changes" "[I") (by decide +kernel)) (fun _ h9 => h9) rfl dX1_changesOf_20 ?_
    refine lv_iload_n hx hb dX1_changesOf_23 rfl (lv_at hl 1 rfl) ?_
    refine va_iald hx hb hK hP 4 0 rfl rfl (zw_in hw) dX1_changesOf_24 ?_
    refine lv_goto (tgt := 29) hx hb dX1_changesOf_25 (by decide) ?_
    exact W.iret (v := (z.2.2.2.1 w.toNatClampNeg)) hx hb hr (fun t ht hW => ⟨⟨_, (), rfl, rfl, ⟨by rw [ht]; exact hP, hD⟩⟩, hS.F ht⟩) hS.2.2 dX1_changesOf_29

set_option maxHeartbeats 4000000 in
set_option maxRecDepth 100000 in
theorem c_X1_changesOf_1 (l : Launch) (D : va_G) (N0 : Nat) (cA cL : ClassId) (E : va_W) (h : Nat) (d : Nat → Nat) (th : Int32) (z : S7) (c : C5) (w : Int32) (hw : ¬ zw w) : Met l yX1_changesOf wsX1_changesOf ({ frames := 2, cells := 0, slots := 0, locals := 42 }) (va_Pc [.ref h, .int w] (zPre D N0 cA cL (wM h d cA (th) z c ++ E))) (va_Qi (fun (rv : Int32) (_ : Unit) => rv = 0) (fun _ t => zPost D N0 (wM h d cA (1) z c ++ E) t) (zA N0)) 0 0 (zA N0) := by
  refine Met.ofW (cc := cX1_changesOf) (maxL := 2) (ret := (some .int)) (by decide) rfl ?_
  intro pr e s m ag below meth cd s₁ B hml hv
  obtain ⟨rfl, hN, hP, hD, hK, hE⟩ := hv
  have hx := B.exec
  have hb := B.bytes
  have hr := B.returns
  have hts := atoms_spec (ws := wsX1_changesOf) B.pre
  have hown : s.vm.findClass RX1 = some m.cls := findClass_of_methodNamed B.named
  have hlocks := B.notSynchronized
  have hS : va_S (zA N0) s.heap s.heap [] := va_S.rf
  have hiw : ∀ w ∈ u_ws RX1 TX1 13, w ∈ wsX1_changesOf := by decide +kernel
  have hl := lv_entry ([.ref h, .int w]) (n := 2) (Nat.le_of_ble_eq_true rfl)
  rw [lg_entry_eq]
  generalize (lg_sl ([.ref h, .int w]) ++ List.replicate (2 - (lg_sl ([.ref h, .int w])).length) Slot.unset).toArray = ls at hl ⊢
  have hl : lv_has ls 2 [(0, .ref h), (1, .int w)] := hl
  refine lv_aload_n hx hb dX1_changesOf_0 rfl (lv_at hl 0 rfl) ?_
  refine lv_iload_n hx hb dX1_changesOf_1 rfl (lv_at hl 1 rfl) ?_
  refine vp_callSi ((va_runS (As := [.int w]) (rest := [.ref h]) ⟨hx, hb, hml, hown, hts⟩ (c_X1_isWren l w) (va_cwS 1 hts gX1_changesOf_X1_isWren rfl rfl rfl (by decide +kernel) ⟨Nat.le_of_ble_eq_true rfl, Nat.le_of_ble_eq_true rfl⟩) ⟨zT.blind, zT.call⟩ rfl rfl hl.1 rfl (lv_room (Nat.le_of_ble_eq_true rfl)) dX1_changesOf_2 ⟨Nat.zero_le _, Nat.zero_le _⟩).run) (fun r_2 h_2 => ?_)
  have h_2 : r_2 = (zb (zw w)) := h_2
  subst h_2
  refine lv_if_eq (tgt := 12) hx hb dX1_changesOf_5 (by decide) (fun c_5 => ?_) (fun c_5 => ?_)
  · refine lv_iconst (v := 1) hx hb dX1_changesOf_12 (by decide) ?_
    refine va_calli (va_runV (As := [.int 1]) (rest := []) ⟨hx, hb, hml, hown, hts⟩ (c_X1_holds_n l D N0 cA cL E h d (th) z c 1 (by decide)) (cwV 1 hts gX1_changesOf_X1_holds rfl rfl rfl (by decide +kernel) ⟨Nat.le_of_ble_eq_true rfl, Nat.le_of_ble_eq_true rfl⟩) ⟨zPre.blind, va_recv hK hP (ci := 1) (q0 := 0) rfl rfl, zPre.call hN hP hD hK hE hS⟩ rfl rfl hl.1 rfl (lv_room (Nat.le_of_ble_eq_true rfl)) dX1_changesOf_13 ⟨Nat.zero_le _, Nat.zero_le _⟩) hS (fun _ _ h9 => h9) (fun _ h9 => h9) (fun r_13 _ t H locs ht hvm h_13 hB hz1 hk1 hS => ?_)
    have h_13 : r_13 = 0 := h_13
    subst h_13
    obtain ⟨hP, hD⟩ := hB
    rw [ht] at hP
    have hP : va_P D vwCl (wM h d cA (1) z c ++ E) H := hP
    have hD : va_D (zA N0) (wM h d cA (1) z c ++ E) := hD
    refine lv_if_eq (tgt := 28) hx hb dX1_changesOf_16 (by decide) (fun _ => ?_) (fun c_16 => absurd c_16 (by decide))
    refine lv_iconst (v := 0) hx hb dX1_changesOf_28 (by decide) ?_
    exact W.iret (v := 0) hx hb hr (fun t ht hW => ⟨⟨_, (), rfl, rfl, ⟨by rw [ht]; exact hP, hD⟩⟩, hS.F ht⟩) hS.2.2 dX1_changesOf_29
  · exact absurd (zb_t c_5) hw

set_option maxHeartbeats 4000000 in
set_option maxRecDepth 100000 in
theorem c_X1_leapsOf_v (l : Launch) (D : va_G) (N0 : Nat) (cA cL : ClassId) (E : va_W) (h : Nat) (d : Nat → Nat) (th : Int32) (z : S7) (c : C5) (w : Int32) (hw : zw w) : Met l yX1_leapsOf wsX1_leapsOf ({ frames := 2, cells := 0, slots := 0, locals := 42 }) (va_Pc [.ref h, .int w] (zPre D N0 cA cL (wM h d cA (th) z c ++ E))) (va_Qi (fun (rv : Int32) (_ : Unit) => rv = z.2.2.2.2.1 w.toNatClampNeg) (fun _ t => zPost D N0 (wM h d cA (0) z c ++ E) t) (zA N0)) 0 0 (zA N0) := by
  refine Met.ofW (cc := cX1_leapsOf) (maxL := 2) (ret := (some .int)) (by decide) rfl ?_
  intro pr e s m ag below meth cd s₁ B hml hv
  obtain ⟨rfl, hN, hP, hD, hK, hE⟩ := hv
  have hx := B.exec
  have hb := B.bytes
  have hr := B.returns
  have hts := atoms_spec (ws := wsX1_leapsOf) B.pre
  have hown : s.vm.findClass RX1 = some m.cls := findClass_of_methodNamed B.named
  have hlocks := B.notSynchronized
  have hS : va_S (zA N0) s.heap s.heap [] := va_S.rf
  have hiw : ∀ w ∈ u_ws RX1 TX1 13, w ∈ wsX1_leapsOf := by decide +kernel
  have hl := lv_entry ([.ref h, .int w]) (n := 2) (Nat.le_of_ble_eq_true rfl)
  rw [lg_entry_eq]
  generalize (lg_sl ([.ref h, .int w]) ++ List.replicate (2 - (lg_sl ([.ref h, .int w])).length) Slot.unset).toArray = ls at hl ⊢
  have hl : lv_has ls 2 [(0, .ref h), (1, .int w)] := hl
  refine lv_aload_n hx hb dX1_leapsOf_0 rfl (lv_at hl 0 rfl) ?_
  refine lv_iload_n hx hb dX1_leapsOf_1 rfl (lv_at hl 1 rfl) ?_
  refine vp_callSi ((va_runS (As := [.int w]) (rest := [.ref h]) ⟨hx, hb, hml, hown, hts⟩ (c_X1_isWren l w) (va_cwS 1 hts gX1_leapsOf_X1_isWren rfl rfl rfl (by decide +kernel) ⟨Nat.le_of_ble_eq_true rfl, Nat.le_of_ble_eq_true rfl⟩) ⟨zT.blind, zT.call⟩ rfl rfl hl.1 rfl (lv_room (Nat.le_of_ble_eq_true rfl)) dX1_leapsOf_2 ⟨Nat.zero_le _, Nat.zero_le _⟩).run) (fun r_2 h_2 => ?_)
  have h_2 : r_2 = (zb (zw w)) := h_2
  subst h_2
  refine lv_if_eq (tgt := 12) hx hb dX1_leapsOf_5 (by decide) (fun c_5 => ?_) (fun c_5 => ?_)
  · exact absurd hw (zb_f c_5)
  · refine lv_iconst (v := 0) hx hb dX1_leapsOf_8 (by decide) ?_
    refine lv_goto (tgt := 13) hx hb dX1_leapsOf_9 (by decide) ?_
    refine va_calli (va_runV (As := [.int 0]) (rest := []) ⟨hx, hb, hml, hown, hts⟩ (c_X1_holds_0 l D N0 cA cL E h d (th) z c) (cwV 1 hts gX1_leapsOf_X1_holds rfl rfl rfl (by decide +kernel) ⟨Nat.le_of_ble_eq_true rfl, Nat.le_of_ble_eq_true rfl⟩) ⟨zPre.blind, va_recv hK hP (ci := 1) (q0 := 0) rfl rfl, zPre.call hN hP hD hK hE hS⟩ rfl rfl hl.1 rfl (lv_room (Nat.le_of_ble_eq_true rfl)) dX1_leapsOf_13 ⟨Nat.zero_le _, Nat.zero_le _⟩) hS (fun _ _ h9 => h9) (fun _ h9 => h9) (fun r_13 _ t H locs ht hvm h_13 hB hz1 hk1 hS => ?_)
    have h_13 : r_13 = 1 := h_13
    subst h_13
    obtain ⟨hP, hD⟩ := hB
    rw [ht] at hP
    have hP : va_P D vwCl (wM h d cA (0) z c ++ E) H := hP
    have hD : va_D (zA N0) (wM h d cA (0) z c ++ E) := hD
    refine lv_if_eq (tgt := 28) hx hb dX1_leapsOf_16 (by decide) (fun c_16 => absurd c_16 (by decide)) (fun _ => ?_)
    refine lv_aload_n hx hb dX1_leapsOf_19 rfl (lv_at hl 0 rfl) ?_
    refine va_get (D := D) (ci := 1) (v := .ref (d 4)) (C := RX1) (T := TX1) (N := 13) hx hb hts hiw hown hK hP 0 rfl rfl 10 (by decide) (hts (.fieldLink RX1 32 "TunedWrensModel" "leaps" "[I") (by decide +kernel)) (fun _ h9 => h9) rfl dX1_leapsOf_20 ?_
    refine lv_iload_n hx hb dX1_leapsOf_23 rfl (lv_at hl 1 rfl) ?_
    refine va_iald hx hb hK hP 5 0 rfl rfl (zw_in hw) dX1_leapsOf_24 ?_
    refine lv_goto (tgt := 29) hx hb dX1_leapsOf_25 (by decide) ?_
    exact W.iret (v := (z.2.2.2.2.1 w.toNatClampNeg)) hx hb hr (fun t ht hW => ⟨⟨_, (), rfl, rfl, ⟨by rw [ht]; exact hP, hD⟩⟩, hS.F ht⟩) hS.2.2 dX1_leapsOf_29

set_option maxHeartbeats 4000000 in
set_option maxRecDepth 100000 in
theorem c_X1_leapsOf_1 (l : Launch) (D : va_G) (N0 : Nat) (cA cL : ClassId) (E : va_W) (h : Nat) (d : Nat → Nat) (th : Int32) (z : S7) (c : C5) (w : Int32) (hw : ¬ zw w) : Met l yX1_leapsOf wsX1_leapsOf ({ frames := 2, cells := 0, slots := 0, locals := 42 }) (va_Pc [.ref h, .int w] (zPre D N0 cA cL (wM h d cA (th) z c ++ E))) (va_Qi (fun (rv : Int32) (_ : Unit) => rv = 0) (fun _ t => zPost D N0 (wM h d cA (1) z c ++ E) t) (zA N0)) 0 0 (zA N0) := by
  refine Met.ofW (cc := cX1_leapsOf) (maxL := 2) (ret := (some .int)) (by decide) rfl ?_
  intro pr e s m ag below meth cd s₁ B hml hv
  obtain ⟨rfl, hN, hP, hD, hK, hE⟩ := hv
  have hx := B.exec
  have hb := B.bytes
  have hr := B.returns
  have hts := atoms_spec (ws := wsX1_leapsOf) B.pre
  have hown : s.vm.findClass RX1 = some m.cls := findClass_of_methodNamed B.named
  have hlocks := B.notSynchronized
  have hS : va_S (zA N0) s.heap s.heap [] := va_S.rf
  have hiw : ∀ w ∈ u_ws RX1 TX1 13, w ∈ wsX1_leapsOf := by decide +kernel
  have hl := lv_entry ([.ref h, .int w]) (n := 2) (Nat.le_of_ble_eq_true rfl)
  rw [lg_entry_eq]
  generalize (lg_sl ([.ref h, .int w]) ++ List.replicate (2 - (lg_sl ([.ref h, .int w])).length) Slot.unset).toArray = ls at hl ⊢
  have hl : lv_has ls 2 [(0, .ref h), (1, .int w)] := hl
  refine lv_aload_n hx hb dX1_leapsOf_0 rfl (lv_at hl 0 rfl) ?_
  refine lv_iload_n hx hb dX1_leapsOf_1 rfl (lv_at hl 1 rfl) ?_
  refine vp_callSi ((va_runS (As := [.int w]) (rest := [.ref h]) ⟨hx, hb, hml, hown, hts⟩ (c_X1_isWren l w) (va_cwS 1 hts gX1_leapsOf_X1_isWren rfl rfl rfl (by decide +kernel) ⟨Nat.le_of_ble_eq_true rfl, Nat.le_of_ble_eq_true rfl⟩) ⟨zT.blind, zT.call⟩ rfl rfl hl.1 rfl (lv_room (Nat.le_of_ble_eq_true rfl)) dX1_leapsOf_2 ⟨Nat.zero_le _, Nat.zero_le _⟩).run) (fun r_2 h_2 => ?_)
  have h_2 : r_2 = (zb (zw w)) := h_2
  subst h_2
  refine lv_if_eq (tgt := 12) hx hb dX1_leapsOf_5 (by decide) (fun c_5 => ?_) (fun c_5 => ?_)
  · refine lv_iconst (v := 1) hx hb dX1_leapsOf_12 (by decide) ?_
    refine va_calli (va_runV (As := [.int 1]) (rest := []) ⟨hx, hb, hml, hown, hts⟩ (c_X1_holds_n l D N0 cA cL E h d (th) z c 1 (by decide)) (cwV 1 hts gX1_leapsOf_X1_holds rfl rfl rfl (by decide +kernel) ⟨Nat.le_of_ble_eq_true rfl, Nat.le_of_ble_eq_true rfl⟩) ⟨zPre.blind, va_recv hK hP (ci := 1) (q0 := 0) rfl rfl, zPre.call hN hP hD hK hE hS⟩ rfl rfl hl.1 rfl (lv_room (Nat.le_of_ble_eq_true rfl)) dX1_leapsOf_13 ⟨Nat.zero_le _, Nat.zero_le _⟩) hS (fun _ _ h9 => h9) (fun _ h9 => h9) (fun r_13 _ t H locs ht hvm h_13 hB hz1 hk1 hS => ?_)
    have h_13 : r_13 = 0 := h_13
    subst h_13
    obtain ⟨hP, hD⟩ := hB
    rw [ht] at hP
    have hP : va_P D vwCl (wM h d cA (1) z c ++ E) H := hP
    have hD : va_D (zA N0) (wM h d cA (1) z c ++ E) := hD
    refine lv_if_eq (tgt := 28) hx hb dX1_leapsOf_16 (by decide) (fun _ => ?_) (fun c_16 => absurd c_16 (by decide))
    refine lv_iconst (v := 0) hx hb dX1_leapsOf_28 (by decide) ?_
    exact W.iret (v := 0) hx hb hr (fun t ht hW => ⟨⟨_, (), rfl, rfl, ⟨by rw [ht]; exact hP, hD⟩⟩, hS.F ht⟩) hS.2.2 dX1_leapsOf_29
  · exact absurd (zb_t c_5) hw

set_option maxHeartbeats 4000000 in
set_option maxRecDepth 100000 in
theorem c_X1_cleanOf_v (l : Launch) (D : va_G) (N0 : Nat) (cA cL : ClassId) (E : va_W) (h : Nat) (d : Nat → Nat) (th : Int32) (z : S7) (c : C5) (w : Int32) (hw : zw w) : Met l yX1_cleanOf wsX1_cleanOf ({ frames := 2, cells := 0, slots := 0, locals := 42 }) (va_Pc [.ref h, .int w] (zPre D N0 cA cL (wM h d cA (th) z c ++ E))) (va_Qi (fun (rv : Int32) (_ : Unit) => rv = z.2.2.2.2.2.1 w.toNatClampNeg) (fun _ t => zPost D N0 (wM h d cA (0) z c ++ E) t) (zA N0)) 0 0 (zA N0) := by
  refine Met.ofW (cc := cX1_cleanOf) (maxL := 2) (ret := (some .int)) (by decide) rfl ?_
  intro pr e s m ag below meth cd s₁ B hml hv
  obtain ⟨rfl, hN, hP, hD, hK, hE⟩ := hv
  have hx := B.exec
  have hb := B.bytes
  have hr := B.returns
  have hts := atoms_spec (ws := wsX1_cleanOf) B.pre
  have hown : s.vm.findClass RX1 = some m.cls := findClass_of_methodNamed B.named
  have hlocks := B.notSynchronized
  have hS : va_S (zA N0) s.heap s.heap [] := va_S.rf
  have hiw : ∀ w ∈ u_ws RX1 TX1 13, w ∈ wsX1_cleanOf := by decide +kernel
  have hl := lv_entry ([.ref h, .int w]) (n := 2) (Nat.le_of_ble_eq_true rfl)
  rw [lg_entry_eq]
  generalize (lg_sl ([.ref h, .int w]) ++ List.replicate (2 - (lg_sl ([.ref h, .int w])).length) Slot.unset).toArray = ls at hl ⊢
  have hl : lv_has ls 2 [(0, .ref h), (1, .int w)] := hl
  refine lv_aload_n hx hb dX1_cleanOf_0 rfl (lv_at hl 0 rfl) ?_
  refine lv_iload_n hx hb dX1_cleanOf_1 rfl (lv_at hl 1 rfl) ?_
  refine vp_callSi ((va_runS (As := [.int w]) (rest := [.ref h]) ⟨hx, hb, hml, hown, hts⟩ (c_X1_isWren l w) (va_cwS 1 hts gX1_cleanOf_X1_isWren rfl rfl rfl (by decide +kernel) ⟨Nat.le_of_ble_eq_true rfl, Nat.le_of_ble_eq_true rfl⟩) ⟨zT.blind, zT.call⟩ rfl rfl hl.1 rfl (lv_room (Nat.le_of_ble_eq_true rfl)) dX1_cleanOf_2 ⟨Nat.zero_le _, Nat.zero_le _⟩).run) (fun r_2 h_2 => ?_)
  have h_2 : r_2 = (zb (zw w)) := h_2
  subst h_2
  refine lv_if_eq (tgt := 12) hx hb dX1_cleanOf_5 (by decide) (fun c_5 => ?_) (fun c_5 => ?_)
  · exact absurd hw (zb_f c_5)
  · refine lv_iconst (v := 0) hx hb dX1_cleanOf_8 (by decide) ?_
    refine lv_goto (tgt := 13) hx hb dX1_cleanOf_9 (by decide) ?_
    refine va_calli (va_runV (As := [.int 0]) (rest := []) ⟨hx, hb, hml, hown, hts⟩ (c_X1_holds_0 l D N0 cA cL E h d (th) z c) (cwV 1 hts gX1_cleanOf_X1_holds rfl rfl rfl (by decide +kernel) ⟨Nat.le_of_ble_eq_true rfl, Nat.le_of_ble_eq_true rfl⟩) ⟨zPre.blind, va_recv hK hP (ci := 1) (q0 := 0) rfl rfl, zPre.call hN hP hD hK hE hS⟩ rfl rfl hl.1 rfl (lv_room (Nat.le_of_ble_eq_true rfl)) dX1_cleanOf_13 ⟨Nat.zero_le _, Nat.zero_le _⟩) hS (fun _ _ h9 => h9) (fun _ h9 => h9) (fun r_13 _ t H locs ht hvm h_13 hB hz1 hk1 hS => ?_)
    have h_13 : r_13 = 1 := h_13
    subst h_13
    obtain ⟨hP, hD⟩ := hB
    rw [ht] at hP
    have hP : va_P D vwCl (wM h d cA (0) z c ++ E) H := hP
    have hD : va_D (zA N0) (wM h d cA (0) z c ++ E) := hD
    refine lv_if_eq (tgt := 28) hx hb dX1_cleanOf_16 (by decide) (fun c_16 => absurd c_16 (by decide)) (fun _ => ?_)
    refine lv_aload_n hx hb dX1_cleanOf_19 rfl (lv_at hl 0 rfl) ?_
    refine va_get (D := D) (ci := 1) (v := .ref (d 5)) (C := RX1) (T := TX1) (N := 13) hx hb hts hiw hown hK hP 0 rfl rfl 11 (by decide) (hts (.fieldLink RX1 35 "TunedWrensModel" "clean" "[I") (by decide +kernel)) (fun _ h9 => h9) rfl dX1_cleanOf_20 ?_
    refine lv_iload_n hx hb dX1_cleanOf_23 rfl (lv_at hl 1 rfl) ?_
    refine va_iald hx hb hK hP 6 0 rfl rfl (zw_in hw) dX1_cleanOf_24 ?_
    refine lv_goto (tgt := 29) hx hb dX1_cleanOf_25 (by decide) ?_
    exact W.iret (v := (z.2.2.2.2.2.1 w.toNatClampNeg)) hx hb hr (fun t ht hW => ⟨⟨_, (), rfl, rfl, ⟨by rw [ht]; exact hP, hD⟩⟩, hS.F ht⟩) hS.2.2 dX1_cleanOf_29

set_option maxHeartbeats 4000000 in
set_option maxRecDepth 100000 in
theorem c_X1_cleanOf_1 (l : Launch) (D : va_G) (N0 : Nat) (cA cL : ClassId) (E : va_W) (h : Nat) (d : Nat → Nat) (th : Int32) (z : S7) (c : C5) (w : Int32) (hw : ¬ zw w) : Met l yX1_cleanOf wsX1_cleanOf ({ frames := 2, cells := 0, slots := 0, locals := 42 }) (va_Pc [.ref h, .int w] (zPre D N0 cA cL (wM h d cA (th) z c ++ E))) (va_Qi (fun (rv : Int32) (_ : Unit) => rv = 0) (fun _ t => zPost D N0 (wM h d cA (1) z c ++ E) t) (zA N0)) 0 0 (zA N0) := by
  refine Met.ofW (cc := cX1_cleanOf) (maxL := 2) (ret := (some .int)) (by decide) rfl ?_
  intro pr e s m ag below meth cd s₁ B hml hv
  obtain ⟨rfl, hN, hP, hD, hK, hE⟩ := hv
  have hx := B.exec
  have hb := B.bytes
  have hr := B.returns
  have hts := atoms_spec (ws := wsX1_cleanOf) B.pre
  have hown : s.vm.findClass RX1 = some m.cls := findClass_of_methodNamed B.named
  have hlocks := B.notSynchronized
  have hS : va_S (zA N0) s.heap s.heap [] := va_S.rf
  have hiw : ∀ w ∈ u_ws RX1 TX1 13, w ∈ wsX1_cleanOf := by decide +kernel
  have hl := lv_entry ([.ref h, .int w]) (n := 2) (Nat.le_of_ble_eq_true rfl)
  rw [lg_entry_eq]
  generalize (lg_sl ([.ref h, .int w]) ++ List.replicate (2 - (lg_sl ([.ref h, .int w])).length) Slot.unset).toArray = ls at hl ⊢
  have hl : lv_has ls 2 [(0, .ref h), (1, .int w)] := hl
  refine lv_aload_n hx hb dX1_cleanOf_0 rfl (lv_at hl 0 rfl) ?_
  refine lv_iload_n hx hb dX1_cleanOf_1 rfl (lv_at hl 1 rfl) ?_
  refine vp_callSi ((va_runS (As := [.int w]) (rest := [.ref h]) ⟨hx, hb, hml, hown, hts⟩ (c_X1_isWren l w) (va_cwS 1 hts gX1_cleanOf_X1_isWren rfl rfl rfl (by decide +kernel) ⟨Nat.le_of_ble_eq_true rfl, Nat.le_of_ble_eq_true rfl⟩) ⟨zT.blind, zT.call⟩ rfl rfl hl.1 rfl (lv_room (Nat.le_of_ble_eq_true rfl)) dX1_cleanOf_2 ⟨Nat.zero_le _, Nat.zero_le _⟩).run) (fun r_2 h_2 => ?_)
  have h_2 : r_2 = (zb (zw w)) := h_2
  subst h_2
  refine lv_if_eq (tgt := 12) hx hb dX1_cleanOf_5 (by decide) (fun c_5 => ?_) (fun c_5 => ?_)
  · refine lv_iconst (v := 1) hx hb dX1_cleanOf_12 (by decide) ?_
    refine va_calli (va_runV (As := [.int 1]) (rest := []) ⟨hx, hb, hml, hown, hts⟩ (c_X1_holds_n l D N0 cA cL E h d (th) z c 1 (by decide)) (cwV 1 hts gX1_cleanOf_X1_holds rfl rfl rfl (by decide +kernel) ⟨Nat.le_of_ble_eq_true rfl, Nat.le_of_ble_eq_true rfl⟩) ⟨zPre.blind, va_recv hK hP (ci := 1) (q0 := 0) rfl rfl, zPre.call hN hP hD hK hE hS⟩ rfl rfl hl.1 rfl (lv_room (Nat.le_of_ble_eq_true rfl)) dX1_cleanOf_13 ⟨Nat.zero_le _, Nat.zero_le _⟩) hS (fun _ _ h9 => h9) (fun _ h9 => h9) (fun r_13 _ t H locs ht hvm h_13 hB hz1 hk1 hS => ?_)
    have h_13 : r_13 = 0 := h_13
    subst h_13
    obtain ⟨hP, hD⟩ := hB
    rw [ht] at hP
    have hP : va_P D vwCl (wM h d cA (1) z c ++ E) H := hP
    have hD : va_D (zA N0) (wM h d cA (1) z c ++ E) := hD
    refine lv_if_eq (tgt := 28) hx hb dX1_cleanOf_16 (by decide) (fun _ => ?_) (fun c_16 => absurd c_16 (by decide))
    refine lv_iconst (v := 0) hx hb dX1_cleanOf_28 (by decide) ?_
    exact W.iret (v := 0) hx hb hr (fun t ht hW => ⟨⟨_, (), rfl, rfl, ⟨by rw [ht]; exact hP, hD⟩⟩, hS.F ht⟩) hS.2.2 dX1_cleanOf_29
  · exact absurd (zb_t c_5) hw

set_option maxHeartbeats 4000000 in
set_option maxRecDepth 100000 in
theorem c_X1_nearest_v (l : Launch) (D : va_G) (N0 : Nat) (cA cL : ClassId) (E : va_W) (h : Nat) (d : Nat → Nat) (th : Int32) (z : S7) (c : C5) (p : Int32) (hc : okC c) (hp : zp p) : Met l yX1_nearest wsX1_nearest ({ frames := 5, cells := 0, slots := 0, locals := 112 }) (va_Pc [.ref h, .int p] (zPre D N0 cA cL (wM h d cA (th) z c ++ E))) (va_Qi (fun (rv : Int32) (_ : Unit) => rv = zNear c p) (fun _ t => zPost D N0 (wM h d cA (0) z c ++ E) t) (zA N0)) 0 0 (zA N0) := by
  refine Met.ofW (cc := cX1_nearest) (maxL := 2) (ret := (some .int)) (by decide) rfl ?_
  intro pr e s m ag below meth cd s₁ B hml hv
  obtain ⟨rfl, hN, hP, hD, hK, hE⟩ := hv
  have hx := B.exec
  have hb := B.bytes
  have hr := B.returns
  have hts := atoms_spec (ws := wsX1_nearest) B.pre
  have hown : s.vm.findClass RX1 = some m.cls := findClass_of_methodNamed B.named
  have hlocks := B.notSynchronized
  have hS : va_S (zA N0) s.heap s.heap [] := va_S.rf
  have hl := lv_entry ([.ref h, .int p]) (n := 2) (Nat.le_of_ble_eq_true rfl)
  rw [lg_entry_eq]
  generalize (lg_sl ([.ref h, .int p]) ++ List.replicate (2 - (lg_sl ([.ref h, .int p])).length) Slot.unset).toArray = ls at hl ⊢
  have hl : lv_has ls 2 [(0, .ref h), (1, .int p)] := hl
  refine lv_aload_n hx hb dX1_nearest_0 rfl (lv_at hl 0 rfl) ?_
  refine lv_iload_n hx hb dX1_nearest_1 rfl (lv_at hl 1 rfl) ?_
  refine vp_callSi ((va_runS (As := [.int p]) (rest := [.ref h]) ⟨hx, hb, hml, hown, hts⟩ (c_X1_isPitch l p) (va_cwS 1 hts gX1_nearest_X1_isPitch rfl rfl rfl (by decide +kernel) ⟨Nat.le_of_ble_eq_true rfl, Nat.le_of_ble_eq_true rfl⟩) ⟨zT.blind, zT.call⟩ rfl rfl hl.1 rfl (lv_room (Nat.le_of_ble_eq_true rfl)) dX1_nearest_2 ⟨Nat.zero_le _, Nat.zero_le _⟩).run) (fun r_2 h_2 => ?_)
  have h_2 : r_2 = (zb (zp p)) := h_2
  subst h_2
  refine lv_if_eq (tgt := 12) hx hb dX1_nearest_5 (by decide) (fun c_5 => ?_) (fun c_5 => ?_)
  · exact absurd hp (zb_f c_5)
  · refine lv_iconst (v := 0) hx hb dX1_nearest_8 (by decide) ?_
    refine lv_goto (tgt := 13) hx hb dX1_nearest_9 (by decide) ?_
    refine va_calli (va_runV (As := [.int 0]) (rest := []) ⟨hx, hb, hml, hown, hts⟩ (c_X1_holds_0 l D N0 cA cL E h d (th) z c) (cwV 1 hts gX1_nearest_X1_holds rfl rfl rfl (by decide +kernel) ⟨Nat.le_of_ble_eq_true rfl, Nat.le_of_ble_eq_true rfl⟩) ⟨zPre.blind, va_recv hK hP (ci := 1) (q0 := 0) rfl rfl, zPre.call hN hP hD hK hE hS⟩ rfl rfl hl.1 rfl (lv_room (Nat.le_of_ble_eq_true rfl)) dX1_nearest_13 ⟨Nat.zero_le _, Nat.zero_le _⟩) hS (fun _ _ h9 => h9) (fun _ h9 => h9) (fun r_13 _ t H locs ht hvm h_13 hB hz1 hk1 hS => ?_)
    have h_13 : r_13 = 1 := h_13
    subst h_13
    obtain ⟨hP, hD⟩ := hB
    rw [ht] at hP
    have hP : va_P D vwCl (wM h d cA (0) z c ++ E) H := hP
    have hD : va_D (zA N0) (wM h d cA (0) z c ++ E) := hD
    refine lv_if_eq (tgt := 27) hx hb dX1_nearest_16 (by decide) (fun c_16 => absurd c_16 (by decide)) (fun _ => ?_)
    refine lv_aload_n hx hb dX1_nearest_19 rfl (lv_at hl 0 rfl) ?_
    refine lv_iload_n hx hb dX1_nearest_20 rfl (lv_at hl 1 rfl) ?_
    refine vp_callSi ((va_runV (As := [.int p]) (rest := []) ⟨hx, hb, hml, hown, hts⟩ (c_X1_near l D N0 cA cL E h d (0) z c p hc) (cwV 1 hts gX1_nearest_X1_near rfl rfl rfl (by decide +kernel) ⟨Nat.le_of_ble_eq_true rfl, Nat.le_of_ble_eq_true rfl⟩) ⟨zPre.blind, va_recv hK hP (ci := 1) (q0 := 0) rfl rfl, zPre.call hN hP hD hK hE hS⟩ rfl rfl hl.1 rfl (lv_room (Nat.le_of_ble_eq_true rfl)) dX1_nearest_21 ⟨Nat.zero_le _, Nat.zero_le _⟩).run) (fun r_21 h_21 => ?_)
    have h_21 : r_21 = (zNear c p) := h_21
    subst h_21
    refine lv_goto (tgt := 28) hx hb dX1_nearest_24 (by decide) ?_
    exact W.iret (v := (zNear c p)) hx hb hr (fun t ht hW => ⟨⟨_, (), rfl, rfl, ⟨by rw [ht]; exact hP, hD⟩⟩, hS.F ht⟩) hS.2.2 dX1_nearest_28

set_option maxHeartbeats 4000000 in
set_option maxRecDepth 100000 in
theorem c_X1_nearest_1 (l : Launch) (D : va_G) (N0 : Nat) (cA cL : ClassId) (E : va_W) (h : Nat) (d : Nat → Nat) (th : Int32) (z : S7) (c : C5) (p : Int32) (hp : ¬ zp p) : Met l yX1_nearest wsX1_nearest ({ frames := 2, cells := 0, slots := 0, locals := 42 }) (va_Pc [.ref h, .int p] (zPre D N0 cA cL (wM h d cA (th) z c ++ E))) (va_Qi (fun (rv : Int32) (_ : Unit) => rv = 0) (fun _ t => zPost D N0 (wM h d cA (1) z c ++ E) t) (zA N0)) 0 0 (zA N0) := by
  refine Met.ofW (cc := cX1_nearest) (maxL := 2) (ret := (some .int)) (by decide) rfl ?_
  intro pr e s m ag below meth cd s₁ B hml hv
  obtain ⟨rfl, hN, hP, hD, hK, hE⟩ := hv
  have hx := B.exec
  have hb := B.bytes
  have hr := B.returns
  have hts := atoms_spec (ws := wsX1_nearest) B.pre
  have hown : s.vm.findClass RX1 = some m.cls := findClass_of_methodNamed B.named
  have hlocks := B.notSynchronized
  have hS : va_S (zA N0) s.heap s.heap [] := va_S.rf
  have hl := lv_entry ([.ref h, .int p]) (n := 2) (Nat.le_of_ble_eq_true rfl)
  rw [lg_entry_eq]
  generalize (lg_sl ([.ref h, .int p]) ++ List.replicate (2 - (lg_sl ([.ref h, .int p])).length) Slot.unset).toArray = ls at hl ⊢
  have hl : lv_has ls 2 [(0, .ref h), (1, .int p)] := hl
  refine lv_aload_n hx hb dX1_nearest_0 rfl (lv_at hl 0 rfl) ?_
  refine lv_iload_n hx hb dX1_nearest_1 rfl (lv_at hl 1 rfl) ?_
  refine vp_callSi ((va_runS (As := [.int p]) (rest := [.ref h]) ⟨hx, hb, hml, hown, hts⟩ (c_X1_isPitch l p) (va_cwS 1 hts gX1_nearest_X1_isPitch rfl rfl rfl (by decide +kernel) ⟨Nat.le_of_ble_eq_true rfl, Nat.le_of_ble_eq_true rfl⟩) ⟨zT.blind, zT.call⟩ rfl rfl hl.1 rfl (lv_room (Nat.le_of_ble_eq_true rfl)) dX1_nearest_2 ⟨Nat.zero_le _, Nat.zero_le _⟩).run) (fun r_2 h_2 => ?_)
  have h_2 : r_2 = (zb (zp p)) := h_2
  subst h_2
  refine lv_if_eq (tgt := 12) hx hb dX1_nearest_5 (by decide) (fun c_5 => ?_) (fun c_5 => ?_)
  · refine lv_iconst (v := 1) hx hb dX1_nearest_12 (by decide) ?_
    refine va_calli (va_runV (As := [.int 1]) (rest := []) ⟨hx, hb, hml, hown, hts⟩ (c_X1_holds_n l D N0 cA cL E h d (th) z c 1 (by decide)) (cwV 1 hts gX1_nearest_X1_holds rfl rfl rfl (by decide +kernel) ⟨Nat.le_of_ble_eq_true rfl, Nat.le_of_ble_eq_true rfl⟩) ⟨zPre.blind, va_recv hK hP (ci := 1) (q0 := 0) rfl rfl, zPre.call hN hP hD hK hE hS⟩ rfl rfl hl.1 rfl (lv_room (Nat.le_of_ble_eq_true rfl)) dX1_nearest_13 ⟨Nat.zero_le _, Nat.zero_le _⟩) hS (fun _ _ h9 => h9) (fun _ h9 => h9) (fun r_13 _ t H locs ht hvm h_13 hB hz1 hk1 hS => ?_)
    have h_13 : r_13 = 0 := h_13
    subst h_13
    obtain ⟨hP, hD⟩ := hB
    rw [ht] at hP
    have hP : va_P D vwCl (wM h d cA (1) z c ++ E) H := hP
    have hD : va_D (zA N0) (wM h d cA (1) z c ++ E) := hD
    refine lv_if_eq (tgt := 27) hx hb dX1_nearest_16 (by decide) (fun _ => ?_) (fun c_16 => absurd c_16 (by decide))
    refine lv_iconst (v := 0) hx hb dX1_nearest_27 (by decide) ?_
    exact W.iret (v := 0) hx hb hr (fun t ht hW => ⟨⟨_, (), rfl, rfl, ⟨by rw [ht]; exact hP, hD⟩⟩, hS.F ht⟩) hS.2.2 dX1_nearest_28
  · exact absurd (zb_t c_5) hp

set_option maxHeartbeats 4000000 in
set_option maxRecDepth 100000 in
theorem c_X1_stepOf_v (l : Launch) (D : va_G) (N0 : Nat) (cA cL : ClassId) (E : va_W) (h : Nat) (d : Nat → Nat) (th : Int32) (z : S7) (c : C5) (p : Int32) (hc : okC c) (hp : zp p) : Met l yX1_stepOf wsX1_stepOf ({ frames := 4, cells := 0, slots := 0, locals := 87 }) (va_Pc [.ref h, .int p] (zPre D N0 cA cL (wM h d cA (th) z c ++ E))) (va_Qi (fun (rv : Int32) (_ : Unit) => rv = zStep c p) (fun _ t => zPost D N0 (wM h d cA (0) z c ++ E) t) (zA N0)) 0 0 (zA N0) := by
  refine Met.ofW (cc := cX1_stepOf) (maxL := 2) (ret := (some .int)) (by decide) rfl ?_
  intro pr e s m ag below meth cd s₁ B hml hv
  obtain ⟨rfl, hN, hP, hD, hK, hE⟩ := hv
  have hx := B.exec
  have hb := B.bytes
  have hr := B.returns
  have hts := atoms_spec (ws := wsX1_stepOf) B.pre
  have hown : s.vm.findClass RX1 = some m.cls := findClass_of_methodNamed B.named
  have hlocks := B.notSynchronized
  have hS : va_S (zA N0) s.heap s.heap [] := va_S.rf
  have hl := lv_entry ([.ref h, .int p]) (n := 2) (Nat.le_of_ble_eq_true rfl)
  rw [lg_entry_eq]
  generalize (lg_sl ([.ref h, .int p]) ++ List.replicate (2 - (lg_sl ([.ref h, .int p])).length) Slot.unset).toArray = ls at hl ⊢
  have hl : lv_has ls 2 [(0, .ref h), (1, .int p)] := hl
  refine lv_aload_n hx hb dX1_stepOf_0 rfl (lv_at hl 0 rfl) ?_
  refine lv_iload_n hx hb dX1_stepOf_1 rfl (lv_at hl 1 rfl) ?_
  refine vp_callSi ((va_runS (As := [.int p]) (rest := [.ref h]) ⟨hx, hb, hml, hown, hts⟩ (c_X1_isPitch l p) (va_cwS 1 hts gX1_stepOf_X1_isPitch rfl rfl rfl (by decide +kernel) ⟨Nat.le_of_ble_eq_true rfl, Nat.le_of_ble_eq_true rfl⟩) ⟨zT.blind, zT.call⟩ rfl rfl hl.1 rfl (lv_room (Nat.le_of_ble_eq_true rfl)) dX1_stepOf_2 ⟨Nat.zero_le _, Nat.zero_le _⟩).run) (fun r_2 h_2 => ?_)
  have h_2 : r_2 = (zb (zp p)) := h_2
  subst h_2
  refine lv_if_eq (tgt := 12) hx hb dX1_stepOf_5 (by decide) (fun c_5 => ?_) (fun c_5 => ?_)
  · exact absurd hp (zb_f c_5)
  · refine lv_iconst (v := 0) hx hb dX1_stepOf_8 (by decide) ?_
    refine lv_goto (tgt := 13) hx hb dX1_stepOf_9 (by decide) ?_
    refine va_calli (va_runV (As := [.int 0]) (rest := []) ⟨hx, hb, hml, hown, hts⟩ (c_X1_holds_0 l D N0 cA cL E h d (th) z c) (cwV 1 hts gX1_stepOf_X1_holds rfl rfl rfl (by decide +kernel) ⟨Nat.le_of_ble_eq_true rfl, Nat.le_of_ble_eq_true rfl⟩) ⟨zPre.blind, va_recv hK hP (ci := 1) (q0 := 0) rfl rfl, zPre.call hN hP hD hK hE hS⟩ rfl rfl hl.1 rfl (lv_room (Nat.le_of_ble_eq_true rfl)) dX1_stepOf_13 ⟨Nat.zero_le _, Nat.zero_le _⟩) hS (fun _ _ h9 => h9) (fun _ h9 => h9) (fun r_13 _ t H locs ht hvm h_13 hB hz1 hk1 hS => ?_)
    have h_13 : r_13 = 1 := h_13
    subst h_13
    obtain ⟨hP, hD⟩ := hB
    rw [ht] at hP
    have hP : va_P D vwCl (wM h d cA (0) z c ++ E) H := hP
    have hD : va_D (zA N0) (wM h d cA (0) z c ++ E) := hD
    refine lv_if_eq (tgt := 27) hx hb dX1_stepOf_16 (by decide) (fun c_16 => absurd c_16 (by decide)) (fun _ => ?_)
    refine lv_aload_n hx hb dX1_stepOf_19 rfl (lv_at hl 0 rfl) ?_
    refine lv_iload_n hx hb dX1_stepOf_20 rfl (lv_at hl 1 rfl) ?_
    refine vp_callSi ((va_runV (As := [.int p]) (rest := []) ⟨hx, hb, hml, hown, hts⟩ (c_X1_step l D N0 cA cL E h d (0) z c p hc) (cwV 1 hts gX1_stepOf_X1_step rfl rfl rfl (by decide +kernel) ⟨Nat.le_of_ble_eq_true rfl, Nat.le_of_ble_eq_true rfl⟩) ⟨zPre.blind, va_recv hK hP (ci := 1) (q0 := 0) rfl rfl, zPre.call hN hP hD hK hE hS⟩ rfl rfl hl.1 rfl (lv_room (Nat.le_of_ble_eq_true rfl)) dX1_stepOf_21 ⟨Nat.zero_le _, Nat.zero_le _⟩).run) (fun r_21 h_21 => ?_)
    have h_21 : r_21 = (zStep c p) := h_21
    subst h_21
    refine lv_goto (tgt := 28) hx hb dX1_stepOf_24 (by decide) ?_
    exact W.iret (v := (zStep c p)) hx hb hr (fun t ht hW => ⟨⟨_, (), rfl, rfl, ⟨by rw [ht]; exact hP, hD⟩⟩, hS.F ht⟩) hS.2.2 dX1_stepOf_28

set_option maxHeartbeats 4000000 in
set_option maxRecDepth 100000 in
theorem c_X1_stepOf_1 (l : Launch) (D : va_G) (N0 : Nat) (cA cL : ClassId) (E : va_W) (h : Nat) (d : Nat → Nat) (th : Int32) (z : S7) (c : C5) (p : Int32) (hp : ¬ zp p) : Met l yX1_stepOf wsX1_stepOf ({ frames := 2, cells := 0, slots := 0, locals := 42 }) (va_Pc [.ref h, .int p] (zPre D N0 cA cL (wM h d cA (th) z c ++ E))) (va_Qi (fun (rv : Int32) (_ : Unit) => rv = 0) (fun _ t => zPost D N0 (wM h d cA (1) z c ++ E) t) (zA N0)) 0 0 (zA N0) := by
  refine Met.ofW (cc := cX1_stepOf) (maxL := 2) (ret := (some .int)) (by decide) rfl ?_
  intro pr e s m ag below meth cd s₁ B hml hv
  obtain ⟨rfl, hN, hP, hD, hK, hE⟩ := hv
  have hx := B.exec
  have hb := B.bytes
  have hr := B.returns
  have hts := atoms_spec (ws := wsX1_stepOf) B.pre
  have hown : s.vm.findClass RX1 = some m.cls := findClass_of_methodNamed B.named
  have hlocks := B.notSynchronized
  have hS : va_S (zA N0) s.heap s.heap [] := va_S.rf
  have hl := lv_entry ([.ref h, .int p]) (n := 2) (Nat.le_of_ble_eq_true rfl)
  rw [lg_entry_eq]
  generalize (lg_sl ([.ref h, .int p]) ++ List.replicate (2 - (lg_sl ([.ref h, .int p])).length) Slot.unset).toArray = ls at hl ⊢
  have hl : lv_has ls 2 [(0, .ref h), (1, .int p)] := hl
  refine lv_aload_n hx hb dX1_stepOf_0 rfl (lv_at hl 0 rfl) ?_
  refine lv_iload_n hx hb dX1_stepOf_1 rfl (lv_at hl 1 rfl) ?_
  refine vp_callSi ((va_runS (As := [.int p]) (rest := [.ref h]) ⟨hx, hb, hml, hown, hts⟩ (c_X1_isPitch l p) (va_cwS 1 hts gX1_stepOf_X1_isPitch rfl rfl rfl (by decide +kernel) ⟨Nat.le_of_ble_eq_true rfl, Nat.le_of_ble_eq_true rfl⟩) ⟨zT.blind, zT.call⟩ rfl rfl hl.1 rfl (lv_room (Nat.le_of_ble_eq_true rfl)) dX1_stepOf_2 ⟨Nat.zero_le _, Nat.zero_le _⟩).run) (fun r_2 h_2 => ?_)
  have h_2 : r_2 = (zb (zp p)) := h_2
  subst h_2
  refine lv_if_eq (tgt := 12) hx hb dX1_stepOf_5 (by decide) (fun c_5 => ?_) (fun c_5 => ?_)
  · refine lv_iconst (v := 1) hx hb dX1_stepOf_12 (by decide) ?_
    refine va_calli (va_runV (As := [.int 1]) (rest := []) ⟨hx, hb, hml, hown, hts⟩ (c_X1_holds_n l D N0 cA cL E h d (th) z c 1 (by decide)) (cwV 1 hts gX1_stepOf_X1_holds rfl rfl rfl (by decide +kernel) ⟨Nat.le_of_ble_eq_true rfl, Nat.le_of_ble_eq_true rfl⟩) ⟨zPre.blind, va_recv hK hP (ci := 1) (q0 := 0) rfl rfl, zPre.call hN hP hD hK hE hS⟩ rfl rfl hl.1 rfl (lv_room (Nat.le_of_ble_eq_true rfl)) dX1_stepOf_13 ⟨Nat.zero_le _, Nat.zero_le _⟩) hS (fun _ _ h9 => h9) (fun _ h9 => h9) (fun r_13 _ t H locs ht hvm h_13 hB hz1 hk1 hS => ?_)
    have h_13 : r_13 = 0 := h_13
    subst h_13
    obtain ⟨hP, hD⟩ := hB
    rw [ht] at hP
    have hP : va_P D vwCl (wM h d cA (1) z c ++ E) H := hP
    have hD : va_D (zA N0) (wM h d cA (1) z c ++ E) := hD
    refine lv_if_eq (tgt := 27) hx hb dX1_stepOf_16 (by decide) (fun _ => ?_) (fun c_16 => absurd c_16 (by decide))
    refine lv_iconst (v := 0) hx hb dX1_stepOf_27 (by decide) ?_
    exact W.iret (v := 0) hx hb hr (fun t ht hW => ⟨⟨_, (), rfl, rfl, ⟨by rw [ht]; exact hP, hD⟩⟩, hS.F ht⟩) hS.2.2 dX1_stepOf_28
  · exact absurd (zb_t c_5) hp

set_option maxHeartbeats 4000000 in
set_option maxRecDepth 100000 in
theorem c_X1_sung_v (l : Launch) (D : va_G) (N0 : Nat) (cA cL : ClassId) (E : va_W) (h : Nat) (d : Nat → Nat) (th : Int32) (z : S7) (c : C5) (k : Int32) (hk : 0 ≤ k ∧ k ≤ 11) : Met l yX1_sung wsX1_sung ({ frames := 1, cells := 0, slots := 0, locals := 22 }) (va_Pc [.ref h, .int k] (zPre D N0 cA cL (wM h d cA (th) z c ++ E))) (va_Qi (fun (rv : Int32) (_ : Unit) => rv = z.2.2.2.2.2.2 k.toNatClampNeg) (fun _ t => zPost D N0 (wM h d cA (0) z c ++ E) t) (zA N0)) 0 0 (zA N0) := by
  refine Met.ofW (cc := cX1_sung) (maxL := 2) (ret := (some .int)) (by decide) rfl ?_
  intro pr e s m ag below meth cd s₁ B hml hv
  obtain ⟨rfl, hN, hP, hD, hK, hE⟩ := hv
  have hx := B.exec
  have hb := B.bytes
  have hr := B.returns
  have hts := atoms_spec (ws := wsX1_sung) B.pre
  have hown : s.vm.findClass RX1 = some m.cls := findClass_of_methodNamed B.named
  have hlocks := B.notSynchronized
  have hS : va_S (zA N0) s.heap s.heap [] := va_S.rf
  have hiw : ∀ w ∈ u_ws RX1 TX1 13, w ∈ wsX1_sung := by decide +kernel
  have hl := lv_entry ([.ref h, .int k]) (n := 2) (Nat.le_of_ble_eq_true rfl)
  rw [lg_entry_eq]
  generalize (lg_sl ([.ref h, .int k]) ++ List.replicate (2 - (lg_sl ([.ref h, .int k])).length) Slot.unset).toArray = ls at hl ⊢
  have hl : lv_has ls 2 [(0, .ref h), (1, .int k)] := hl
  refine lv_aload_n hx hb dX1_sung_0 rfl (lv_at hl 0 rfl) ?_
  refine lv_iload_n hx hb dX1_sung_1 rfl (lv_at hl 1 rfl) ?_
  refine lv_iconst (v := 0) hx hb dX1_sung_2 (by decide) ?_
  refine lv_bipush (v := 11) hx hb dX1_sung_3 (by decide) ?_
  refine vp_callSi ((va_runS (As := [.int k, .int 0, .int 11]) (rest := [.ref h]) ⟨hx, hb, hml, hown, hts⟩ (c_X1_in l k 0 11) (va_cwS 3 hts gX1_sung_X1_in rfl rfl rfl (by decide +kernel) ⟨Nat.le_of_ble_eq_true rfl, Nat.le_of_ble_eq_true rfl⟩) ⟨zT.blind, zT.call⟩ rfl rfl hl.1 rfl (lv_room (Nat.le_of_ble_eq_true rfl)) dX1_sung_5 ⟨Nat.zero_le _, Nat.zero_le _⟩).run) (fun r_5 h_5 => ?_)
  have h_5 : r_5 = (zb (0 ≤ k ∧ k ≤ 11)) := h_5
  subst h_5
  refine lv_if_eq (tgt := 15) hx hb dX1_sung_8 (by decide) (fun c_8 => ?_) (fun c_8 => ?_)
  · exact absurd hk (zb_f c_8)
  · refine lv_iconst (v := 0) hx hb dX1_sung_11 (by decide) ?_
    refine lv_goto (tgt := 16) hx hb dX1_sung_12 (by decide) ?_
    refine va_calli (va_runV (As := [.int 0]) (rest := []) ⟨hx, hb, hml, hown, hts⟩ (c_X1_holds_0 l D N0 cA cL E h d (th) z c) (cwV 1 hts gX1_sung_X1_holds rfl rfl rfl (by decide +kernel) ⟨Nat.le_of_ble_eq_true rfl, Nat.le_of_ble_eq_true rfl⟩) ⟨zPre.blind, va_recv hK hP (ci := 1) (q0 := 0) rfl rfl, zPre.call hN hP hD hK hE hS⟩ rfl rfl hl.1 rfl (lv_room (Nat.le_of_ble_eq_true rfl)) dX1_sung_16 ⟨Nat.zero_le _, Nat.zero_le _⟩) hS (fun _ _ h9 => h9) (fun _ h9 => h9) (fun r_16 _ t H locs ht hvm h_16 hB hz1 hk1 hS => ?_)
    have h_16 : r_16 = 1 := h_16
    subst h_16
    obtain ⟨hP, hD⟩ := hB
    rw [ht] at hP
    have hP : va_P D vwCl (wM h d cA (0) z c ++ E) H := hP
    have hD : va_D (zA N0) (wM h d cA (0) z c ++ E) := hD
    refine lv_if_eq (tgt := 31) hx hb dX1_sung_19 (by decide) (fun c_19 => absurd c_19 (by decide)) (fun _ => ?_)
    refine lv_aload_n hx hb dX1_sung_22 rfl (lv_at hl 0 rfl) ?_
    refine va_get (D := D) (ci := 1) (v := .ref (d 6)) (C := RX1) (T := TX1) (N := 13) hx hb hts hiw hown hK hP 0 rfl rfl 12 (by decide) (hts (.fieldLink RX1 38 "TunedWrensModel" "semitones" "[I") (by decide +kernel)) (fun _ h9 => h9) rfl dX1_sung_23 ?_
    refine lv_iload_n hx hb dX1_sung_26 rfl (lv_at hl 1 rfl) ?_
    refine va_iald hx hb hK hP 7 0 rfl rfl (zk_in hk) dX1_sung_27 ?_
    refine lv_goto (tgt := 32) hx hb dX1_sung_28 (by decide) ?_
    exact W.iret (v := (z.2.2.2.2.2.2 k.toNatClampNeg)) hx hb hr (fun t ht hW => ⟨⟨_, (), rfl, rfl, ⟨by rw [ht]; exact hP, hD⟩⟩, hS.F ht⟩) hS.2.2 dX1_sung_32

set_option maxHeartbeats 4000000 in
set_option maxRecDepth 100000 in
theorem c_X1_sung_1 (l : Launch) (D : va_G) (N0 : Nat) (cA cL : ClassId) (E : va_W) (h : Nat) (d : Nat → Nat) (th : Int32) (z : S7) (c : C5) (k : Int32) (hk : ¬ (0 ≤ k ∧ k ≤ 11)) : Met l yX1_sung wsX1_sung ({ frames := 1, cells := 0, slots := 0, locals := 22 }) (va_Pc [.ref h, .int k] (zPre D N0 cA cL (wM h d cA (th) z c ++ E))) (va_Qi (fun (rv : Int32) (_ : Unit) => rv = 0) (fun _ t => zPost D N0 (wM h d cA (1) z c ++ E) t) (zA N0)) 0 0 (zA N0) := by
  refine Met.ofW (cc := cX1_sung) (maxL := 2) (ret := (some .int)) (by decide) rfl ?_
  intro pr e s m ag below meth cd s₁ B hml hv
  obtain ⟨rfl, hN, hP, hD, hK, hE⟩ := hv
  have hx := B.exec
  have hb := B.bytes
  have hr := B.returns
  have hts := atoms_spec (ws := wsX1_sung) B.pre
  have hown : s.vm.findClass RX1 = some m.cls := findClass_of_methodNamed B.named
  have hlocks := B.notSynchronized
  have hS : va_S (zA N0) s.heap s.heap [] := va_S.rf
  have hiw : ∀ w ∈ u_ws RX1 TX1 13, w ∈ wsX1_sung := by decide +kernel
  have hl := lv_entry ([.ref h, .int k]) (n := 2) (Nat.le_of_ble_eq_true rfl)
  rw [lg_entry_eq]
  generalize (lg_sl ([.ref h, .int k]) ++ List.replicate (2 - (lg_sl ([.ref h, .int k])).length) Slot.unset).toArray = ls at hl ⊢
  have hl : lv_has ls 2 [(0, .ref h), (1, .int k)] := hl
  refine lv_aload_n hx hb dX1_sung_0 rfl (lv_at hl 0 rfl) ?_
  refine lv_iload_n hx hb dX1_sung_1 rfl (lv_at hl 1 rfl) ?_
  refine lv_iconst (v := 0) hx hb dX1_sung_2 (by decide) ?_
  refine lv_bipush (v := 11) hx hb dX1_sung_3 (by decide) ?_
  refine vp_callSi ((va_runS (As := [.int k, .int 0, .int 11]) (rest := [.ref h]) ⟨hx, hb, hml, hown, hts⟩ (c_X1_in l k 0 11) (va_cwS 3 hts gX1_sung_X1_in rfl rfl rfl (by decide +kernel) ⟨Nat.le_of_ble_eq_true rfl, Nat.le_of_ble_eq_true rfl⟩) ⟨zT.blind, zT.call⟩ rfl rfl hl.1 rfl (lv_room (Nat.le_of_ble_eq_true rfl)) dX1_sung_5 ⟨Nat.zero_le _, Nat.zero_le _⟩).run) (fun r_5 h_5 => ?_)
  have h_5 : r_5 = (zb (0 ≤ k ∧ k ≤ 11)) := h_5
  subst h_5
  refine lv_if_eq (tgt := 15) hx hb dX1_sung_8 (by decide) (fun c_8 => ?_) (fun c_8 => ?_)
  · refine lv_iconst (v := 1) hx hb dX1_sung_15 (by decide) ?_
    refine va_calli (va_runV (As := [.int 1]) (rest := []) ⟨hx, hb, hml, hown, hts⟩ (c_X1_holds_n l D N0 cA cL E h d (th) z c 1 (by decide)) (cwV 1 hts gX1_sung_X1_holds rfl rfl rfl (by decide +kernel) ⟨Nat.le_of_ble_eq_true rfl, Nat.le_of_ble_eq_true rfl⟩) ⟨zPre.blind, va_recv hK hP (ci := 1) (q0 := 0) rfl rfl, zPre.call hN hP hD hK hE hS⟩ rfl rfl hl.1 rfl (lv_room (Nat.le_of_ble_eq_true rfl)) dX1_sung_16 ⟨Nat.zero_le _, Nat.zero_le _⟩) hS (fun _ _ h9 => h9) (fun _ h9 => h9) (fun r_16 _ t H locs ht hvm h_16 hB hz1 hk1 hS => ?_)
    have h_16 : r_16 = 0 := h_16
    subst h_16
    obtain ⟨hP, hD⟩ := hB
    rw [ht] at hP
    have hP : va_P D vwCl (wM h d cA (1) z c ++ E) H := hP
    have hD : va_D (zA N0) (wM h d cA (1) z c ++ E) := hD
    refine lv_if_eq (tgt := 31) hx hb dX1_sung_19 (by decide) (fun _ => ?_) (fun c_19 => absurd c_19 (by decide))
    refine lv_iconst (v := 0) hx hb dX1_sung_31 (by decide) ?_
    exact W.iret (v := 0) hx hb hr (fun t ht hW => ⟨⟨_, (), rfl, rfl, ⟨by rw [ht]; exact hP, hD⟩⟩, hS.F ht⟩) hS.2.2 dX1_sung_32
  · exact absurd (zb_t c_8) hk

set_option maxHeartbeats 4000000 in
set_option maxRecDepth 100000 in
theorem c_X1_within_v (l : Launch) (D : va_G) (N0 : Nat) (cA cL : ClassId) (E : va_W) (h : Nat) (d : Nat → Nat) (th : Int32) (z : S7) (c : C5) (ky md : Nat) (hk : ky < 12) (hm : md < 8) : Met l yX1_within wsX1_within ({ frames := 4, cells := 0, slots := 0, locals := 90 }) (va_Pc [.ref h, .int (nI ky), .int (nI md)] (zPre D N0 cA cL (wM h d cA (th) z c ++ E))) (va_Qi (fun (rv : Int32) (_ : Unit) => rv = zW md ky z.2.2.2.2.2.2) (fun _ t => zPost D N0 (wM h d cA (0) z c ++ E) t) (zA N0)) 0 0 (zA N0) := by
  refine Met.ofW (cc := cX1_within) (maxL := 3) (ret := (some .int)) (by decide) rfl ?_
  intro pr e s m ag below meth cd s₁ B hml hv
  obtain ⟨rfl, hN, hP, hD, hK, hE⟩ := hv
  have hx := B.exec
  have hb := B.bytes
  have hr := B.returns
  have hts := atoms_spec (ws := wsX1_within) B.pre
  have hown : s.vm.findClass RX1 = some m.cls := findClass_of_methodNamed B.named
  have hlocks := B.notSynchronized
  have hS : va_S (zA N0) s.heap s.heap [] := va_S.rf
  have hl := lv_entry ([.ref h, .int (nI ky), .int (nI md)]) (n := 3) (Nat.le_of_ble_eq_true rfl)
  rw [lg_entry_eq]
  generalize (lg_sl ([.ref h, .int (nI ky), .int (nI md)]) ++ List.replicate (3 - (lg_sl ([.ref h, .int (nI ky), .int (nI md)])).length) Slot.unset).toArray = ls at hl ⊢
  have hl : lv_has ls 3 [(0, .ref h), (1, .int (nI ky)), (2, .int (nI md))] := hl
  refine lv_aload_n hx hb dX1_within_0 rfl (lv_at hl 0 rfl) ?_
  refine lv_iload_n hx hb dX1_within_1 rfl (lv_at hl 1 rfl) ?_
  refine lv_iload_n hx hb dX1_within_2 rfl (lv_at hl 2 rfl) ?_
  refine vp_callSi ((va_runS (As := [.int (nI ky), .int (nI md)]) (rest := [.ref h]) ⟨hx, hb, hml, hown, hts⟩ (c_X1_isScale l (nI ky) (nI md)) (va_cwS 2 hts gX1_within_X1_isScale rfl rfl rfl (by decide +kernel) ⟨Nat.le_of_ble_eq_true rfl, Nat.le_of_ble_eq_true rfl⟩) ⟨zT.blind, zT.call⟩ rfl rfl hl.1 rfl (lv_room (Nat.le_of_ble_eq_true rfl)) dX1_within_3 ⟨Nat.zero_le _, Nat.zero_le _⟩).run) (fun r_3 h_3 => ?_)
  have h_3 : r_3 = (zb ((0 ≤ (nI ky) ∧ (nI ky) ≤ 11) ∧ (0 ≤ (nI md) ∧ (nI md) ≤ 7))) := h_3
  subst h_3
  refine lv_if_eq (tgt := 13) hx hb dX1_within_6 (by decide) (fun c_6 => ?_) (fun c_6 => ?_)
  · exact absurd ⟨zn_in (n := 11) (by omega) (by decide), zn_in (n := 7) (by omega) (by decide)⟩ (zb_f c_6)
  · refine lv_iconst (v := 0) hx hb dX1_within_9 (by decide) ?_
    refine lv_goto (tgt := 14) hx hb dX1_within_10 (by decide) ?_
    refine va_calli (va_runV (As := [.int 0]) (rest := []) ⟨hx, hb, hml, hown, hts⟩ (c_X1_holds_0 l D N0 cA cL E h d (th) z c) (cwV 1 hts gX1_within_X1_holds rfl rfl rfl (by decide +kernel) ⟨Nat.le_of_ble_eq_true rfl, Nat.le_of_ble_eq_true rfl⟩) ⟨zPre.blind, va_recv hK hP (ci := 1) (q0 := 0) rfl rfl, zPre.call hN hP hD hK hE hS⟩ rfl rfl hl.1 rfl (lv_room (Nat.le_of_ble_eq_true rfl)) dX1_within_14 ⟨Nat.zero_le _, Nat.zero_le _⟩) hS (fun _ _ h9 => h9) (fun _ h9 => h9) (fun r_14 _ t H locs ht hvm h_14 hB hz1 hk1 hS => ?_)
    have h_14 : r_14 = 1 := h_14
    subst h_14
    obtain ⟨hP, hD⟩ := hB
    rw [ht] at hP
    have hP : va_P D vwCl (wM h d cA (0) z c ++ E) H := hP
    have hD : va_D (zA N0) (wM h d cA (0) z c ++ E) := hD
    refine lv_if_eq (tgt := 29) hx hb dX1_within_17 (by decide) (fun c_17 => absurd c_17 (by decide)) (fun _ => ?_)
    refine lv_aload_n hx hb dX1_within_20 rfl (lv_at hl 0 rfl) ?_
    refine lv_iload_n hx hb dX1_within_21 rfl (lv_at hl 1 rfl) ?_
    refine lv_iload_n hx hb dX1_within_22 rfl (lv_at hl 2 rfl) ?_
    refine vp_callSi ((va_runV (As := [.int (nI ky), .int (nI md)]) (rest := []) ⟨hx, hb, hml, hown, hts⟩ (c_X1_inside l D N0 cA cL E h d (0) z c ky md hk hm) (cwV 2 hts gX1_within_X1_inside rfl rfl rfl (by decide +kernel) ⟨Nat.le_of_ble_eq_true rfl, Nat.le_of_ble_eq_true rfl⟩) ⟨zPre.blind, va_recv hK hP (ci := 1) (q0 := 0) rfl rfl, zPre.call hN hP hD hK hE hS⟩ rfl rfl hl.1 rfl (lv_room (Nat.le_of_ble_eq_true rfl)) dX1_within_23 ⟨Nat.zero_le _, Nat.zero_le _⟩).run) (fun r_23 h_23 => ?_)
    have h_23 : r_23 = (zW md ky z.2.2.2.2.2.2) := h_23
    subst h_23
    refine lv_goto (tgt := 30) hx hb dX1_within_26 (by decide) ?_
    exact W.iret (v := (zW md ky z.2.2.2.2.2.2)) hx hb hr (fun t ht hW => ⟨⟨_, (), rfl, rfl, ⟨by rw [ht]; exact hP, hD⟩⟩, hS.F ht⟩) hS.2.2 dX1_within_30

set_option maxHeartbeats 4000000 in
set_option maxRecDepth 100000 in
theorem c_X1_within_1 (l : Launch) (D : va_G) (N0 : Nat) (cA cL : ClassId) (E : va_W) (h : Nat) (d : Nat → Nat) (th : Int32) (z : S7) (c : C5) (a0 : Int32) (a1 : Int32) (hs : ¬ ((0 ≤ a0 ∧ a0 ≤ 11) ∧ (0 ≤ a1 ∧ a1 ≤ 7))) : Met l yX1_within wsX1_within ({ frames := 2, cells := 0, slots := 0, locals := 43 }) (va_Pc [.ref h, .int a0, .int a1] (zPre D N0 cA cL (wM h d cA (th) z c ++ E))) (va_Qi (fun (rv : Int32) (_ : Unit) => rv = 0) (fun _ t => zPost D N0 (wM h d cA (1) z c ++ E) t) (zA N0)) 0 0 (zA N0) := by
  refine Met.ofW (cc := cX1_within) (maxL := 3) (ret := (some .int)) (by decide) rfl ?_
  intro pr e s m ag below meth cd s₁ B hml hv
  obtain ⟨rfl, hN, hP, hD, hK, hE⟩ := hv
  have hx := B.exec
  have hb := B.bytes
  have hr := B.returns
  have hts := atoms_spec (ws := wsX1_within) B.pre
  have hown : s.vm.findClass RX1 = some m.cls := findClass_of_methodNamed B.named
  have hlocks := B.notSynchronized
  have hS : va_S (zA N0) s.heap s.heap [] := va_S.rf
  have hl := lv_entry ([.ref h, .int a0, .int a1]) (n := 3) (Nat.le_of_ble_eq_true rfl)
  rw [lg_entry_eq]
  generalize (lg_sl ([.ref h, .int a0, .int a1]) ++ List.replicate (3 - (lg_sl ([.ref h, .int a0, .int a1])).length) Slot.unset).toArray = ls at hl ⊢
  have hl : lv_has ls 3 [(0, .ref h), (1, .int a0), (2, .int a1)] := hl
  refine lv_aload_n hx hb dX1_within_0 rfl (lv_at hl 0 rfl) ?_
  refine lv_iload_n hx hb dX1_within_1 rfl (lv_at hl 1 rfl) ?_
  refine lv_iload_n hx hb dX1_within_2 rfl (lv_at hl 2 rfl) ?_
  refine vp_callSi ((va_runS (As := [.int a0, .int a1]) (rest := [.ref h]) ⟨hx, hb, hml, hown, hts⟩ (c_X1_isScale l a0 a1) (va_cwS 2 hts gX1_within_X1_isScale rfl rfl rfl (by decide +kernel) ⟨Nat.le_of_ble_eq_true rfl, Nat.le_of_ble_eq_true rfl⟩) ⟨zT.blind, zT.call⟩ rfl rfl hl.1 rfl (lv_room (Nat.le_of_ble_eq_true rfl)) dX1_within_3 ⟨Nat.zero_le _, Nat.zero_le _⟩).run) (fun r_3 h_3 => ?_)
  have h_3 : r_3 = (zb ((0 ≤ a0 ∧ a0 ≤ 11) ∧ (0 ≤ a1 ∧ a1 ≤ 7))) := h_3
  subst h_3
  refine lv_if_eq (tgt := 13) hx hb dX1_within_6 (by decide) (fun c_6 => ?_) (fun c_6 => ?_)
  · refine lv_iconst (v := 1) hx hb dX1_within_13 (by decide) ?_
    refine va_calli (va_runV (As := [.int 1]) (rest := []) ⟨hx, hb, hml, hown, hts⟩ (c_X1_holds_n l D N0 cA cL E h d (th) z c 1 (by decide)) (cwV 1 hts gX1_within_X1_holds rfl rfl rfl (by decide +kernel) ⟨Nat.le_of_ble_eq_true rfl, Nat.le_of_ble_eq_true rfl⟩) ⟨zPre.blind, va_recv hK hP (ci := 1) (q0 := 0) rfl rfl, zPre.call hN hP hD hK hE hS⟩ rfl rfl hl.1 rfl (lv_room (Nat.le_of_ble_eq_true rfl)) dX1_within_14 ⟨Nat.zero_le _, Nat.zero_le _⟩) hS (fun _ _ h9 => h9) (fun _ h9 => h9) (fun r_14 _ t H locs ht hvm h_14 hB hz1 hk1 hS => ?_)
    have h_14 : r_14 = 0 := h_14
    subst h_14
    obtain ⟨hP, hD⟩ := hB
    rw [ht] at hP
    have hP : va_P D vwCl (wM h d cA (1) z c ++ E) H := hP
    have hD : va_D (zA N0) (wM h d cA (1) z c ++ E) := hD
    refine lv_if_eq (tgt := 29) hx hb dX1_within_17 (by decide) (fun _ => ?_) (fun c_17 => absurd c_17 (by decide))
    refine lv_iconst (v := 0) hx hb dX1_within_29 (by decide) ?_
    exact W.iret (v := 0) hx hb hr (fun t ht hW => ⟨⟨_, (), rfl, rfl, ⟨by rw [ht]; exact hP, hD⟩⟩, hS.F ht⟩) hS.2.2 dX1_within_30
  · exact absurd (zb_t c_6) hs

set_option maxHeartbeats 4000000 in
set_option maxRecDepth 100000 in
theorem c_X1_rest_v (l : Launch) (D : va_G) (N0 : Nat) (cA cL : ClassId) (E : va_W) (h : Nat) (d : Nat → Nat) (th : Int32) (z : S7) (c : C5) (w : Int32) (hw : zw w) : Met l yX1_rest wsX1_rest ({ frames := 2, cells := 0, slots := 0, locals := 42 }) (va_Pc [.ref h, .int w] (zPre D N0 cA cL (wM h d cA (th) z c ++ E))) (va_Qi (fun (rv : Int32) (_ : Unit) => rv = z.1 w.toNatClampNeg) (fun _ t => zPost D N0 (wM h d cA (0) ((upd z.1 w.toNatClampNeg (-1)), (upd z.2.1 w.toNatClampNeg 0), z.2.2.1, z.2.2.2.1, z.2.2.2.2.1, z.2.2.2.2.2.1, z.2.2.2.2.2.2) c ++ E) t) (zA N0)) 0 0 (zA N0) := by
  refine Met.ofW (cc := cX1_rest) (maxL := 3) (ret := (some .int)) (by decide) rfl ?_
  intro pr e s m ag below meth cd s₁ B hml hv
  obtain ⟨rfl, hN, hP, hD, hK, hE⟩ := hv
  have hx := B.exec
  have hb := B.bytes
  have hr := B.returns
  have hts := atoms_spec (ws := wsX1_rest) B.pre
  have hown : s.vm.findClass RX1 = some m.cls := findClass_of_methodNamed B.named
  have hlocks := B.notSynchronized
  have hS : va_S (zA N0) s.heap s.heap [] := va_S.rf
  have hiw : ∀ w ∈ u_ws RX1 TX1 13, w ∈ wsX1_rest := by decide +kernel
  have hl := lv_entry ([.ref h, .int w]) (n := 3) (Nat.le_of_ble_eq_true rfl)
  rw [lg_entry_eq]
  generalize (lg_sl ([.ref h, .int w]) ++ List.replicate (3 - (lg_sl ([.ref h, .int w])).length) Slot.unset).toArray = ls at hl ⊢
  have hl : lv_has ls 3 [(0, .ref h), (1, .int w)] := hl
  refine lv_aload_n hx hb dX1_rest_0 rfl (lv_at hl 0 rfl) ?_
  refine lv_iload_n hx hb dX1_rest_1 rfl (lv_at hl 1 rfl) ?_
  refine vp_callSi ((va_runS (As := [.int w]) (rest := [.ref h]) ⟨hx, hb, hml, hown, hts⟩ (c_X1_isWren l w) (va_cwS 1 hts gX1_rest_X1_isWren rfl rfl rfl (by decide +kernel) ⟨Nat.le_of_ble_eq_true rfl, Nat.le_of_ble_eq_true rfl⟩) ⟨zT.blind, zT.call⟩ rfl rfl hl.1 rfl (lv_room (Nat.le_of_ble_eq_true rfl)) dX1_rest_2 ⟨Nat.zero_le _, Nat.zero_le _⟩).run) (fun r_2 h_2 => ?_)
  have h_2 : r_2 = (zb (zw w)) := h_2
  subst h_2
  refine lv_if_eq (tgt := 12) hx hb dX1_rest_5 (by decide) (fun c_5 => ?_) (fun c_5 => ?_)
  · exact absurd hw (zb_f c_5)
  · refine lv_iconst (v := 0) hx hb dX1_rest_8 (by decide) ?_
    refine lv_goto (tgt := 13) hx hb dX1_rest_9 (by decide) ?_
    refine va_calli (va_runV (As := [.int 0]) (rest := []) ⟨hx, hb, hml, hown, hts⟩ (c_X1_holds_0 l D N0 cA cL E h d (th) z c) (cwV 1 hts gX1_rest_X1_holds rfl rfl rfl (by decide +kernel) ⟨Nat.le_of_ble_eq_true rfl, Nat.le_of_ble_eq_true rfl⟩) ⟨zPre.blind, va_recv hK hP (ci := 1) (q0 := 0) rfl rfl, zPre.call hN hP hD hK hE hS⟩ rfl rfl hl.1 rfl (lv_room (Nat.le_of_ble_eq_true rfl)) dX1_rest_13 ⟨Nat.zero_le _, Nat.zero_le _⟩) hS (fun _ _ h9 => h9) (fun _ h9 => h9) (fun r_13 _ t H locs ht hvm h_13 hB hz1 hk1 hS => ?_)
    have h_13 : r_13 = 1 := h_13
    subst h_13
    obtain ⟨hP, hD⟩ := hB
    rw [ht] at hP
    have hP : va_P D vwCl (wM h d cA (0) z c ++ E) H := hP
    have hD : va_D (zA N0) (wM h d cA (0) z c ++ E) := hD
    refine lv_if_ne (tgt := 21) hx hb dX1_rest_16 (by decide) (fun _ => ?_) (fun c_16 => absurd c_16 (by decide))
    refine lv_aload_n hx hb dX1_rest_21 rfl (lv_at hl 0 rfl) ?_
    refine va_get (D := D) (ci := 1) (v := .ref (d 0)) (C := RX1) (T := TX1) (N := 13) hx hb hts hiw hown hK hP 0 rfl rfl 6 (by decide) (hts (.fieldLink RX1 19 "TunedWrensModel" "rungs" "[I") (by decide +kernel)) (fun _ h9 => h9) rfl dX1_rest_22 ?_
    refine lv_iload_n hx hb dX1_rest_25 rfl (lv_at hl 1 rfl) ?_
    refine va_iald hx hb hK hP 1 0 rfl rfl (zw_in hw) dX1_rest_26 ?_
    refine lv_istore_n (lv' := [(2, .int (z.1 w.toNatClampNeg)), (0, .ref h), (1, .int w)]) hx hb dX1_rest_27 rfl hl (by decide) rfl (fun ls hl => ?_)
    refine lv_aload_n hx hb dX1_rest_28 rfl (lv_at hl 1 rfl) ?_
    refine va_get (D := D) (ci := 1) (v := .ref (d 0)) (C := RX1) (T := TX1) (N := 13) hx hb hts hiw hown hK hP 0 rfl rfl 6 (by decide) (hts (.fieldLink RX1 19 "TunedWrensModel" "rungs" "[I") (by decide +kernel)) (fun _ h9 => h9) rfl dX1_rest_29 ?_
    refine lv_iload_n hx hb dX1_rest_32 rfl (lv_at hl 2 rfl) ?_
    refine lv_iconst (v := (-1)) hx hb dX1_rest_33 (by decide) ?_
    refine va_iast hx hb hK hP hD hS 1 0 rfl rfl (zw_in hw) dX1_rest_34 (fun H locs hP hD hS => ?_)
    have hP : va_P D vwCl (wM h d cA (0) ((upd z.1 w.toNatClampNeg (-1)), z.2.1, z.2.2.1, z.2.2.2.1, z.2.2.2.2.1, z.2.2.2.2.2.1, z.2.2.2.2.2.2) c ++ E) H := hP
    have hD : va_D (zA N0) (wM h d cA (0) ((upd z.1 w.toNatClampNeg (-1)), z.2.1, z.2.2.1, z.2.2.2.1, z.2.2.2.2.1, z.2.2.2.2.2.1, z.2.2.2.2.2.2) c ++ E) := hD
    refine lv_aload_n hx hb dX1_rest_35 rfl (lv_at hl 1 rfl) ?_
    refine va_get (D := D) (ci := 1) (v := .ref (d 1)) (C := RX1) (T := TX1) (N := 13) hx hb hts hiw hown hK hP 0 rfl rfl 7 (by decide) (hts (.fieldLink RX1 23 "TunedWrensModel" "nudges" "[I") (by decide +kernel)) (fun _ h9 => h9) rfl dX1_rest_36 ?_
    refine lv_iload_n hx hb dX1_rest_39 rfl (lv_at hl 2 rfl) ?_
    refine lv_iconst (v := 0) hx hb dX1_rest_40 (by decide) ?_
    refine va_iast hx hb hK hP hD hS 2 0 rfl rfl (zw_in hw) dX1_rest_41 (fun H locs hP hD hS => ?_)
    have hP : va_P D vwCl (wM h d cA (0) ((upd z.1 w.toNatClampNeg (-1)), (upd z.2.1 w.toNatClampNeg 0), z.2.2.1, z.2.2.2.1, z.2.2.2.2.1, z.2.2.2.2.2.1, z.2.2.2.2.2.2) c ++ E) H := hP
    have hD : va_D (zA N0) (wM h d cA (0) ((upd z.1 w.toNatClampNeg (-1)), (upd z.2.1 w.toNatClampNeg 0), z.2.2.1, z.2.2.2.1, z.2.2.2.2.1, z.2.2.2.2.2.1, z.2.2.2.2.2.2) c ++ E) := hD
    refine lv_iload_n hx hb dX1_rest_42 rfl (lv_at hl 0 rfl) ?_
    exact W.iret (v := (z.1 w.toNatClampNeg)) hx hb hr (fun t ht hW => ⟨⟨_, (), rfl, rfl, ⟨by rw [ht]; exact hP, hD⟩⟩, hS.F ht⟩) hS.2.2 dX1_rest_43

set_option maxHeartbeats 4000000 in
set_option maxRecDepth 100000 in
theorem c_X1_rest_1 (l : Launch) (D : va_G) (N0 : Nat) (cA cL : ClassId) (E : va_W) (h : Nat) (d : Nat → Nat) (th : Int32) (z : S7) (c : C5) (w : Int32) (hw : ¬ zw w) : Met l yX1_rest wsX1_rest ({ frames := 2, cells := 0, slots := 0, locals := 42 }) (va_Pc [.ref h, .int w] (zPre D N0 cA cL (wM h d cA (th) z c ++ E))) (va_Qi (fun (rv : Int32) (_ : Unit) => rv = 0) (fun _ t => zPost D N0 (wM h d cA (1) z c ++ E) t) (zA N0)) 0 0 (zA N0) := by
  refine Met.ofW (cc := cX1_rest) (maxL := 3) (ret := (some .int)) (by decide) rfl ?_
  intro pr e s m ag below meth cd s₁ B hml hv
  obtain ⟨rfl, hN, hP, hD, hK, hE⟩ := hv
  have hx := B.exec
  have hb := B.bytes
  have hr := B.returns
  have hts := atoms_spec (ws := wsX1_rest) B.pre
  have hown : s.vm.findClass RX1 = some m.cls := findClass_of_methodNamed B.named
  have hlocks := B.notSynchronized
  have hS : va_S (zA N0) s.heap s.heap [] := va_S.rf
  have hiw : ∀ w ∈ u_ws RX1 TX1 13, w ∈ wsX1_rest := by decide +kernel
  have hl := lv_entry ([.ref h, .int w]) (n := 3) (Nat.le_of_ble_eq_true rfl)
  rw [lg_entry_eq]
  generalize (lg_sl ([.ref h, .int w]) ++ List.replicate (3 - (lg_sl ([.ref h, .int w])).length) Slot.unset).toArray = ls at hl ⊢
  have hl : lv_has ls 3 [(0, .ref h), (1, .int w)] := hl
  refine lv_aload_n hx hb dX1_rest_0 rfl (lv_at hl 0 rfl) ?_
  refine lv_iload_n hx hb dX1_rest_1 rfl (lv_at hl 1 rfl) ?_
  refine vp_callSi ((va_runS (As := [.int w]) (rest := [.ref h]) ⟨hx, hb, hml, hown, hts⟩ (c_X1_isWren l w) (va_cwS 1 hts gX1_rest_X1_isWren rfl rfl rfl (by decide +kernel) ⟨Nat.le_of_ble_eq_true rfl, Nat.le_of_ble_eq_true rfl⟩) ⟨zT.blind, zT.call⟩ rfl rfl hl.1 rfl (lv_room (Nat.le_of_ble_eq_true rfl)) dX1_rest_2 ⟨Nat.zero_le _, Nat.zero_le _⟩).run) (fun r_2 h_2 => ?_)
  have h_2 : r_2 = (zb (zw w)) := h_2
  subst h_2
  refine lv_if_eq (tgt := 12) hx hb dX1_rest_5 (by decide) (fun c_5 => ?_) (fun c_5 => ?_)
  · refine lv_iconst (v := 1) hx hb dX1_rest_12 (by decide) ?_
    refine va_calli (va_runV (As := [.int 1]) (rest := []) ⟨hx, hb, hml, hown, hts⟩ (c_X1_holds_n l D N0 cA cL E h d (th) z c 1 (by decide)) (cwV 1 hts gX1_rest_X1_holds rfl rfl rfl (by decide +kernel) ⟨Nat.le_of_ble_eq_true rfl, Nat.le_of_ble_eq_true rfl⟩) ⟨zPre.blind, va_recv hK hP (ci := 1) (q0 := 0) rfl rfl, zPre.call hN hP hD hK hE hS⟩ rfl rfl hl.1 rfl (lv_room (Nat.le_of_ble_eq_true rfl)) dX1_rest_13 ⟨Nat.zero_le _, Nat.zero_le _⟩) hS (fun _ _ h9 => h9) (fun _ h9 => h9) (fun r_13 _ t H locs ht hvm h_13 hB hz1 hk1 hS => ?_)
    have h_13 : r_13 = 0 := h_13
    subst h_13
    obtain ⟨hP, hD⟩ := hB
    rw [ht] at hP
    have hP : va_P D vwCl (wM h d cA (1) z c ++ E) H := hP
    have hD : va_D (zA N0) (wM h d cA (1) z c ++ E) := hD
    refine lv_if_ne (tgt := 21) hx hb dX1_rest_16 (by decide) (fun c_16 => absurd c_16 (by decide)) (fun _ => ?_)
    refine lv_iconst (v := 0) hx hb dX1_rest_19 (by decide) ?_
    exact W.iret (v := 0) hx hb hr (fun t ht hW => ⟨⟨_, (), rfl, rfl, ⟨by rw [ht]; exact hP, hD⟩⟩, hS.F ht⟩) hS.2.2 dX1_rest_20
  · exact absurd (zb_t c_5) hw

set_option maxHeartbeats 4000000 in
set_option maxRecDepth 100000 in
theorem c_X1_setNudging_v (l : Launch) (D : va_G) (N0 : Nat) (cA cL : ClassId) (E : va_W) (h : Nat) (d : Nat → Nat) (th : Int32) (z : S7) (c : C5) (sp : Int32) (le : Int32) (gl : Int32) (h1 : 0 ≤ sp ∧ sp ≤ 100) (h2 : 0 ≤ le ∧ le ≤ 600) (h3 : 0 ≤ gl ∧ gl ≤ 12000) : Met l yX1_setNudging wsX1_setNudging ({ frames := 1, cells := 0, slots := 0, locals := 22 }) (va_Pc [.ref h, .int sp, .int le, .int gl] (zPre D N0 cA cL (wM h d cA (th) z c ++ E))) (va_Qv (fun (_ : Unit) => True) (fun _ t => zPost D N0 (wM h d cA (0) z (c.1, c.2.1, sp, le, gl) ++ E) t) (zA N0)) 0 0 (zA N0) := by
  refine Met.ofW (cc := cX1_setNudging) (maxL := 4) (ret := none) (by decide) rfl ?_
  intro pr e s m ag below meth cd s₁ B hml hv
  obtain ⟨rfl, hN, hP, hD, hK, hE⟩ := hv
  have hx := B.exec
  have hb := B.bytes
  have hr := B.returns
  have hts := atoms_spec (ws := wsX1_setNudging) B.pre
  have hown : s.vm.findClass RX1 = some m.cls := findClass_of_methodNamed B.named
  have hlocks := B.notSynchronized
  have hS : va_S (zA N0) s.heap s.heap [] := va_S.rf
  have hiw : ∀ w ∈ u_ws RX1 TX1 13, w ∈ wsX1_setNudging := by decide +kernel
  have hl := lv_entry ([.ref h, .int sp, .int le, .int gl]) (n := 4) (Nat.le_of_ble_eq_true rfl)
  rw [lg_entry_eq]
  generalize (lg_sl ([.ref h, .int sp, .int le, .int gl]) ++ List.replicate (4 - (lg_sl ([.ref h, .int sp, .int le, .int gl])).length) Slot.unset).toArray = ls at hl ⊢
  have hl : lv_has ls 4 [(0, .ref h), (1, .int sp), (2, .int le), (3, .int gl)] := hl
  refine lv_aload_n hx hb dX1_setNudging_0 rfl (lv_at hl 0 rfl) ?_
  refine lv_iload_n hx hb dX1_setNudging_1 rfl (lv_at hl 1 rfl) ?_
  refine lv_iconst (v := 0) hx hb dX1_setNudging_2 (by decide) ?_
  refine lv_bipush (v := 100) hx hb dX1_setNudging_3 (by decide) ?_
  refine vp_callSi ((va_runS (As := [.int sp, .int 0, .int 100]) (rest := [.ref h]) ⟨hx, hb, hml, hown, hts⟩ (c_X1_in l sp 0 100) (va_cwS 3 hts gX1_setNudging_X1_in rfl rfl rfl (by decide +kernel) ⟨Nat.le_of_ble_eq_true rfl, Nat.le_of_ble_eq_true rfl⟩) ⟨zT.blind, zT.call⟩ rfl rfl hl.1 rfl (lv_room (Nat.le_of_ble_eq_true rfl)) dX1_setNudging_5 ⟨Nat.zero_le _, Nat.zero_le _⟩).run) (fun r_5 h_5 => ?_)
  have h_5 : r_5 = (zb (0 ≤ sp ∧ sp ≤ 100)) := h_5
  subst h_5
  refine lv_if_eq (tgt := 37) hx hb dX1_setNudging_8 (by decide) (fun c_8 => ?_) (fun c_8 => ?_)
  · exact absurd h1 (zb_f c_8)
  · refine lv_iload_n hx hb dX1_setNudging_11 rfl (lv_at hl 2 rfl) ?_
    refine lv_iconst (v := 0) hx hb dX1_setNudging_12 (by decide) ?_
    refine lv_sipush (v := 600) hx hb dX1_setNudging_13 (by decide) ?_
    refine vp_callSi ((va_runS (As := [.int le, .int 0, .int 600]) (rest := [.ref h]) ⟨hx, hb, hml, hown, hts⟩ (c_X1_in l le 0 600) (va_cwS 3 hts gX1_setNudging_X1_in rfl rfl rfl (by decide +kernel) ⟨Nat.le_of_ble_eq_true rfl, Nat.le_of_ble_eq_true rfl⟩) ⟨zT.blind, zT.call⟩ rfl rfl hl.1 rfl (lv_room (Nat.le_of_ble_eq_true rfl)) dX1_setNudging_16 ⟨Nat.zero_le _, Nat.zero_le _⟩).run) (fun r_16 h_16 => ?_)
    have h_16 : r_16 = (zb (0 ≤ le ∧ le ≤ 600)) := h_16
    subst h_16
    refine lv_if_eq (tgt := 37) hx hb dX1_setNudging_19 (by decide) (fun c_19 => ?_) (fun c_19 => ?_)
    · exact absurd h2 (zb_f c_19)
    · refine lv_iload_n hx hb dX1_setNudging_22 rfl (lv_at hl 3 rfl) ?_
      refine lv_iconst (v := 0) hx hb dX1_setNudging_23 (by decide) ?_
      refine lv_sipush (v := 12000) hx hb dX1_setNudging_24 (by decide) ?_
      refine vp_callSi ((va_runS (As := [.int gl, .int 0, .int 12000]) (rest := [.ref h]) ⟨hx, hb, hml, hown, hts⟩ (c_X1_in l gl 0 12000) (va_cwS 3 hts gX1_setNudging_X1_in rfl rfl rfl (by decide +kernel) ⟨Nat.le_of_ble_eq_true rfl, Nat.le_of_ble_eq_true rfl⟩) ⟨zT.blind, zT.call⟩ rfl rfl hl.1 rfl (lv_room (Nat.le_of_ble_eq_true rfl)) dX1_setNudging_27 ⟨Nat.zero_le _, Nat.zero_le _⟩).run) (fun r_27 h_27 => ?_)
      have h_27 : r_27 = (zb (0 ≤ gl ∧ gl ≤ 12000)) := h_27
      subst h_27
      refine lv_if_eq (tgt := 37) hx hb dX1_setNudging_30 (by decide) (fun c_30 => ?_) (fun c_30 => ?_)
      · exact absurd h3 (zb_f c_30)
      · refine lv_iconst (v := 0) hx hb dX1_setNudging_33 (by decide) ?_
        refine lv_goto (tgt := 38) hx hb dX1_setNudging_34 (by decide) ?_
        refine va_calli (va_runV (As := [.int 0]) (rest := []) ⟨hx, hb, hml, hown, hts⟩ (c_X1_holds_0 l D N0 cA cL E h d (th) z c) (cwV 1 hts gX1_setNudging_X1_holds rfl rfl rfl (by decide +kernel) ⟨Nat.le_of_ble_eq_true rfl, Nat.le_of_ble_eq_true rfl⟩) ⟨zPre.blind, va_recv hK hP (ci := 1) (q0 := 0) rfl rfl, zPre.call hN hP hD hK hE hS⟩ rfl rfl hl.1 rfl (lv_room (Nat.le_of_ble_eq_true rfl)) dX1_setNudging_38 ⟨Nat.zero_le _, Nat.zero_le _⟩) hS (fun _ _ h9 => h9) (fun _ h9 => h9) (fun r_38 _ t H locs ht hvm h_38 hB hz1 hk1 hS => ?_)
        have h_38 : r_38 = 1 := h_38
        subst h_38
        obtain ⟨hP, hD⟩ := hB
        rw [ht] at hP
        have hP : va_P D vwCl (wM h d cA (0) z c ++ E) H := hP
        have hD : va_D (zA N0) (wM h d cA (0) z c ++ E) := hD
        refine lv_if_eq (tgt := 59) hx hb dX1_setNudging_41 (by decide) (fun c_41 => absurd c_41 (by decide)) (fun _ => ?_)
        refine lv_aload_n hx hb dX1_setNudging_44 rfl (lv_at hl 0 rfl) ?_
        refine lv_iload_n hx hb dX1_setNudging_45 rfl (lv_at hl 1 rfl) ?_
        refine va_put (D := D) (ci := 1) (v := .int sp) (ty := .int) (C := RX1) (T := TX1) (N := 13) hx hb hts hiw tyX1 tyX1_ok nmX1 hown hK hP hD hS 0 rfl rfl 3 (by decide) (hts (.fieldLink RX1 7 "TunedWrensModel" "speed" "I") (by decide +kernel)) (fun _ h9 => h9) rfl (by decide +kernel) rfl rfl (Nat.le_of_ble_eq_true rfl) dX1_setNudging_46 (fun H locs hP hD hS => ?_)
        have hP : va_P D vwCl (wM h d cA (0) z (c.1, c.2.1, sp, c.2.2.2.1, c.2.2.2.2) ++ E) H := hP
        have hD : va_D (zA N0) (wM h d cA (0) z (c.1, c.2.1, sp, c.2.2.2.1, c.2.2.2.2) ++ E) := hD
        refine lv_aload_n hx hb dX1_setNudging_49 rfl (lv_at hl 0 rfl) ?_
        refine lv_iload_n hx hb dX1_setNudging_50 rfl (lv_at hl 2 rfl) ?_
        refine va_put (D := D) (ci := 1) (v := .int le) (ty := .int) (C := RX1) (T := TX1) (N := 13) hx hb hts hiw tyX1 tyX1_ok nmX1 hown hK hP hD hS 0 rfl rfl 4 (by decide) (hts (.fieldLink RX1 13 "TunedWrensModel" "leash" "I") (by decide +kernel)) (fun _ h9 => h9) rfl (by decide +kernel) rfl rfl (Nat.le_of_ble_eq_true rfl) dX1_setNudging_51 (fun H locs hP hD hS => ?_)
        have hP : va_P D vwCl (wM h d cA (0) z (c.1, c.2.1, sp, le, c.2.2.2.2) ++ E) H := hP
        have hD : va_D (zA N0) (wM h d cA (0) z (c.1, c.2.1, sp, le, c.2.2.2.2) ++ E) := hD
        refine lv_aload_n hx hb dX1_setNudging_54 rfl (lv_at hl 0 rfl) ?_
        refine lv_iload_n hx hb dX1_setNudging_55 rfl (lv_at hl 3 rfl) ?_
        refine va_put (D := D) (ci := 1) (v := .int gl) (ty := .int) (C := RX1) (T := TX1) (N := 13) hx hb hts hiw tyX1 tyX1_ok nmX1 hown hK hP hD hS 0 rfl rfl 5 (by decide) (hts (.fieldLink RX1 16 "TunedWrensModel" "glide" "I") (by decide +kernel)) (fun _ h9 => h9) rfl (by decide +kernel) rfl rfl (Nat.le_of_ble_eq_true rfl) dX1_setNudging_56 (fun H locs hP hD hS => ?_)
        have hP : va_P D vwCl (wM h d cA (0) z (c.1, c.2.1, sp, le, gl) ++ E) H := hP
        have hD : va_D (zA N0) (wM h d cA (0) z (c.1, c.2.1, sp, le, gl) ++ E) := hD
        exact W.vret hx hb hr (fun t ht hW => ⟨⟨(), rfl, trivial, ⟨by rw [ht]; exact hP, hD⟩⟩, hS.F ht⟩) hS.2.2 dX1_setNudging_59

set_option maxHeartbeats 4000000 in
set_option maxRecDepth 100000 in
theorem c_X1_setNudging_1 (l : Launch) (D : va_G) (N0 : Nat) (cA cL : ClassId) (E : va_W) (h : Nat) (d : Nat → Nat) (th : Int32) (z : S7) (c : C5) (sp : Int32) (le : Int32) (gl : Int32) (h1 : ¬ ((0 ≤ sp ∧ sp ≤ 100) ∧ (0 ≤ le ∧ le ≤ 600) ∧ (0 ≤ gl ∧ gl ≤ 12000))) : Met l yX1_setNudging wsX1_setNudging ({ frames := 1, cells := 0, slots := 0, locals := 22 }) (va_Pc [.ref h, .int sp, .int le, .int gl] (zPre D N0 cA cL (wM h d cA (th) z c ++ E))) (va_Qv (fun (_ : Unit) => True) (fun _ t => zPost D N0 (wM h d cA (1) z c ++ E) t) (zA N0)) 0 0 (zA N0) := by
  refine Met.ofW (cc := cX1_setNudging) (maxL := 4) (ret := none) (by decide) rfl ?_
  intro pr e s m ag below meth cd s₁ B hml hv
  obtain ⟨rfl, hN, hP, hD, hK, hE⟩ := hv
  have hx := B.exec
  have hb := B.bytes
  have hr := B.returns
  have hts := atoms_spec (ws := wsX1_setNudging) B.pre
  have hown : s.vm.findClass RX1 = some m.cls := findClass_of_methodNamed B.named
  have hlocks := B.notSynchronized
  have hS : va_S (zA N0) s.heap s.heap [] := va_S.rf
  have hiw : ∀ w ∈ u_ws RX1 TX1 13, w ∈ wsX1_setNudging := by decide +kernel
  have hl := lv_entry ([.ref h, .int sp, .int le, .int gl]) (n := 4) (Nat.le_of_ble_eq_true rfl)
  rw [lg_entry_eq]
  generalize (lg_sl ([.ref h, .int sp, .int le, .int gl]) ++ List.replicate (4 - (lg_sl ([.ref h, .int sp, .int le, .int gl])).length) Slot.unset).toArray = ls at hl ⊢
  have hl : lv_has ls 4 [(0, .ref h), (1, .int sp), (2, .int le), (3, .int gl)] := hl
  refine lv_aload_n hx hb dX1_setNudging_0 rfl (lv_at hl 0 rfl) ?_
  refine lv_iload_n hx hb dX1_setNudging_1 rfl (lv_at hl 1 rfl) ?_
  refine lv_iconst (v := 0) hx hb dX1_setNudging_2 (by decide) ?_
  refine lv_bipush (v := 100) hx hb dX1_setNudging_3 (by decide) ?_
  refine vp_callSi ((va_runS (As := [.int sp, .int 0, .int 100]) (rest := [.ref h]) ⟨hx, hb, hml, hown, hts⟩ (c_X1_in l sp 0 100) (va_cwS 3 hts gX1_setNudging_X1_in rfl rfl rfl (by decide +kernel) ⟨Nat.le_of_ble_eq_true rfl, Nat.le_of_ble_eq_true rfl⟩) ⟨zT.blind, zT.call⟩ rfl rfl hl.1 rfl (lv_room (Nat.le_of_ble_eq_true rfl)) dX1_setNudging_5 ⟨Nat.zero_le _, Nat.zero_le _⟩).run) (fun r_5 h_5 => ?_)
  have h_5 : r_5 = (zb (0 ≤ sp ∧ sp ≤ 100)) := h_5
  subst h_5
  refine lv_if_eq (tgt := 37) hx hb dX1_setNudging_8 (by decide) (fun c_8 => ?_) (fun c_8 => ?_)
  · refine lv_iconst (v := 1) hx hb dX1_setNudging_37 (by decide) ?_
    refine va_calli (va_runV (As := [.int 1]) (rest := []) ⟨hx, hb, hml, hown, hts⟩ (c_X1_holds_n l D N0 cA cL E h d (th) z c 1 (by decide)) (cwV 1 hts gX1_setNudging_X1_holds rfl rfl rfl (by decide +kernel) ⟨Nat.le_of_ble_eq_true rfl, Nat.le_of_ble_eq_true rfl⟩) ⟨zPre.blind, va_recv hK hP (ci := 1) (q0 := 0) rfl rfl, zPre.call hN hP hD hK hE hS⟩ rfl rfl hl.1 rfl (lv_room (Nat.le_of_ble_eq_true rfl)) dX1_setNudging_38 ⟨Nat.zero_le _, Nat.zero_le _⟩) hS (fun _ _ h9 => h9) (fun _ h9 => h9) (fun r_38 _ t H locs ht hvm h_38 hB hz1 hk1 hS => ?_)
    have h_38 : r_38 = 0 := h_38
    subst h_38
    obtain ⟨hP, hD⟩ := hB
    rw [ht] at hP
    have hP : va_P D vwCl (wM h d cA (1) z c ++ E) H := hP
    have hD : va_D (zA N0) (wM h d cA (1) z c ++ E) := hD
    refine lv_if_eq (tgt := 59) hx hb dX1_setNudging_41 (by decide) (fun _ => ?_) (fun c_41 => absurd c_41 (by decide))
    exact W.vret hx hb hr (fun t ht hW => ⟨⟨(), rfl, trivial, ⟨by rw [ht]; exact hP, hD⟩⟩, hS.F ht⟩) hS.2.2 dX1_setNudging_59
  · refine lv_iload_n hx hb dX1_setNudging_11 rfl (lv_at hl 2 rfl) ?_
    refine lv_iconst (v := 0) hx hb dX1_setNudging_12 (by decide) ?_
    refine lv_sipush (v := 600) hx hb dX1_setNudging_13 (by decide) ?_
    refine vp_callSi ((va_runS (As := [.int le, .int 0, .int 600]) (rest := [.ref h]) ⟨hx, hb, hml, hown, hts⟩ (c_X1_in l le 0 600) (va_cwS 3 hts gX1_setNudging_X1_in rfl rfl rfl (by decide +kernel) ⟨Nat.le_of_ble_eq_true rfl, Nat.le_of_ble_eq_true rfl⟩) ⟨zT.blind, zT.call⟩ rfl rfl hl.1 rfl (lv_room (Nat.le_of_ble_eq_true rfl)) dX1_setNudging_16 ⟨Nat.zero_le _, Nat.zero_le _⟩).run) (fun r_16 h_16 => ?_)
    have h_16 : r_16 = (zb (0 ≤ le ∧ le ≤ 600)) := h_16
    subst h_16
    refine lv_if_eq (tgt := 37) hx hb dX1_setNudging_19 (by decide) (fun c_19 => ?_) (fun c_19 => ?_)
    · refine lv_iconst (v := 1) hx hb dX1_setNudging_37 (by decide) ?_
      refine va_calli (va_runV (As := [.int 1]) (rest := []) ⟨hx, hb, hml, hown, hts⟩ (c_X1_holds_n l D N0 cA cL E h d (th) z c 1 (by decide)) (cwV 1 hts gX1_setNudging_X1_holds rfl rfl rfl (by decide +kernel) ⟨Nat.le_of_ble_eq_true rfl, Nat.le_of_ble_eq_true rfl⟩) ⟨zPre.blind, va_recv hK hP (ci := 1) (q0 := 0) rfl rfl, zPre.call hN hP hD hK hE hS⟩ rfl rfl hl.1 rfl (lv_room (Nat.le_of_ble_eq_true rfl)) dX1_setNudging_38 ⟨Nat.zero_le _, Nat.zero_le _⟩) hS (fun _ _ h9 => h9) (fun _ h9 => h9) (fun r_38 _ t H locs ht hvm h_38 hB hz1 hk1 hS => ?_)
      have h_38 : r_38 = 0 := h_38
      subst h_38
      obtain ⟨hP, hD⟩ := hB
      rw [ht] at hP
      have hP : va_P D vwCl (wM h d cA (1) z c ++ E) H := hP
      have hD : va_D (zA N0) (wM h d cA (1) z c ++ E) := hD
      refine lv_if_eq (tgt := 59) hx hb dX1_setNudging_41 (by decide) (fun _ => ?_) (fun c_41 => absurd c_41 (by decide))
      exact W.vret hx hb hr (fun t ht hW => ⟨⟨(), rfl, trivial, ⟨by rw [ht]; exact hP, hD⟩⟩, hS.F ht⟩) hS.2.2 dX1_setNudging_59
    · refine lv_iload_n hx hb dX1_setNudging_22 rfl (lv_at hl 3 rfl) ?_
      refine lv_iconst (v := 0) hx hb dX1_setNudging_23 (by decide) ?_
      refine lv_sipush (v := 12000) hx hb dX1_setNudging_24 (by decide) ?_
      refine vp_callSi ((va_runS (As := [.int gl, .int 0, .int 12000]) (rest := [.ref h]) ⟨hx, hb, hml, hown, hts⟩ (c_X1_in l gl 0 12000) (va_cwS 3 hts gX1_setNudging_X1_in rfl rfl rfl (by decide +kernel) ⟨Nat.le_of_ble_eq_true rfl, Nat.le_of_ble_eq_true rfl⟩) ⟨zT.blind, zT.call⟩ rfl rfl hl.1 rfl (lv_room (Nat.le_of_ble_eq_true rfl)) dX1_setNudging_27 ⟨Nat.zero_le _, Nat.zero_le _⟩).run) (fun r_27 h_27 => ?_)
      have h_27 : r_27 = (zb (0 ≤ gl ∧ gl ≤ 12000)) := h_27
      subst h_27
      refine lv_if_eq (tgt := 37) hx hb dX1_setNudging_30 (by decide) (fun c_30 => ?_) (fun c_30 => ?_)
      · refine lv_iconst (v := 1) hx hb dX1_setNudging_37 (by decide) ?_
        refine va_calli (va_runV (As := [.int 1]) (rest := []) ⟨hx, hb, hml, hown, hts⟩ (c_X1_holds_n l D N0 cA cL E h d (th) z c 1 (by decide)) (cwV 1 hts gX1_setNudging_X1_holds rfl rfl rfl (by decide +kernel) ⟨Nat.le_of_ble_eq_true rfl, Nat.le_of_ble_eq_true rfl⟩) ⟨zPre.blind, va_recv hK hP (ci := 1) (q0 := 0) rfl rfl, zPre.call hN hP hD hK hE hS⟩ rfl rfl hl.1 rfl (lv_room (Nat.le_of_ble_eq_true rfl)) dX1_setNudging_38 ⟨Nat.zero_le _, Nat.zero_le _⟩) hS (fun _ _ h9 => h9) (fun _ h9 => h9) (fun r_38 _ t H locs ht hvm h_38 hB hz1 hk1 hS => ?_)
        have h_38 : r_38 = 0 := h_38
        subst h_38
        obtain ⟨hP, hD⟩ := hB
        rw [ht] at hP
        have hP : va_P D vwCl (wM h d cA (1) z c ++ E) H := hP
        have hD : va_D (zA N0) (wM h d cA (1) z c ++ E) := hD
        refine lv_if_eq (tgt := 59) hx hb dX1_setNudging_41 (by decide) (fun _ => ?_) (fun c_41 => absurd c_41 (by decide))
        exact W.vret hx hb hr (fun t ht hW => ⟨⟨(), rfl, trivial, ⟨by rw [ht]; exact hP, hD⟩⟩, hS.F ht⟩) hS.2.2 dX1_setNudging_59
      · exact absurd ⟨zb_t c_8, zb_t c_19, zb_t c_30⟩ h1

set_option maxHeartbeats 4000000 in
set_option maxRecDepth 100000 in
theorem c_X1_sing_v (l : Launch) (D : va_G) (N0 : Nat) (cA cL : ClassId) (E : va_W) (h : Nat) (d : Nat → Nat) (th : Int32) (z : S7) (c : C5) (w : Int32) (p : Int32) (hc : okC c) (hw : zw w) (hp : zp p) (hz : okZ z) : Met l yX1_sing wsX1_sing ({ frames := 7, cells := 0, slots := 0, locals := 165 }) (va_Pc [.ref h, .int w, .int p] (zPre D N0 cA cL (wM h d cA (th) z c ++ E))) (va_Qi (fun (rv : Int32) (_ : Unit) => rv = zOut c w.toNatClampNeg p z) (fun _ t => zPost D N0 (wM h d cA (0) (zSg c w.toNatClampNeg p z) c ++ E) t) (zA N0)) 0 0 (zA N0) := by
  refine Met.ofW (cc := cX1_sing) (maxL := 3) (ret := (some .int)) (by decide) rfl ?_
  intro pr e s m ag below meth cd s₁ B hml hv
  obtain ⟨rfl, hN, hP, hD, hK, hE⟩ := hv
  have hx := B.exec
  have hb := B.bytes
  have hr := B.returns
  have hts := atoms_spec (ws := wsX1_sing) B.pre
  have hown : s.vm.findClass RX1 = some m.cls := findClass_of_methodNamed B.named
  have hlocks := B.notSynchronized
  have hS : va_S (zA N0) s.heap s.heap [] := va_S.rf
  have hl := lv_entry ([.ref h, .int w, .int p]) (n := 3) (Nat.le_of_ble_eq_true rfl)
  rw [lg_entry_eq]
  generalize (lg_sl ([.ref h, .int w, .int p]) ++ List.replicate (3 - (lg_sl ([.ref h, .int w, .int p])).length) Slot.unset).toArray = ls at hl ⊢
  have hl : lv_has ls 3 [(0, .ref h), (1, .int w), (2, .int p)] := hl
  refine lv_aload_n hx hb dX1_sing_0 rfl (lv_at hl 0 rfl) ?_
  refine lv_iload_n hx hb dX1_sing_1 rfl (lv_at hl 1 rfl) ?_
  refine vp_callSi ((va_runS (As := [.int w]) (rest := [.ref h]) ⟨hx, hb, hml, hown, hts⟩ (c_X1_isWren l w) (va_cwS 1 hts gX1_sing_X1_isWren rfl rfl rfl (by decide +kernel) ⟨Nat.le_of_ble_eq_true rfl, Nat.le_of_ble_eq_true rfl⟩) ⟨zT.blind, zT.call⟩ rfl rfl hl.1 rfl (lv_room (Nat.le_of_ble_eq_true rfl)) dX1_sing_2 ⟨Nat.zero_le _, Nat.zero_le _⟩).run) (fun r_2 h_2 => ?_)
  have h_2 : r_2 = (zb (zw w)) := h_2
  subst h_2
  refine lv_if_ne (tgt := 12) hx hb dX1_sing_5 (by decide) (fun c_5 => ?_) (fun c_5 => ?_)
  · refine lv_iload_n hx hb dX1_sing_12 rfl (lv_at hl 2 rfl) ?_
    refine vp_callSi ((va_runS (As := [.int p]) (rest := [.ref h]) ⟨hx, hb, hml, hown, hts⟩ (c_X1_isPitch l p) (va_cwS 1 hts gX1_sing_X1_isPitch rfl rfl rfl (by decide +kernel) ⟨Nat.le_of_ble_eq_true rfl, Nat.le_of_ble_eq_true rfl⟩) ⟨zT.blind, zT.call⟩ rfl rfl hl.1 rfl (lv_room (Nat.le_of_ble_eq_true rfl)) dX1_sing_13 ⟨Nat.zero_le _, Nat.zero_le _⟩).run) (fun r_13 h_13 => ?_)
    have h_13 : r_13 = (zb (zp p)) := h_13
    subst h_13
    refine lv_if_eq (tgt := 23) hx hb dX1_sing_16 (by decide) (fun c_16 => ?_) (fun c_16 => ?_)
    · exact absurd hp (zb_f c_16)
    · refine lv_iconst (v := 0) hx hb dX1_sing_19 (by decide) ?_
      refine lv_goto (tgt := 24) hx hb dX1_sing_20 (by decide) ?_
      refine va_calli (va_runV (As := [.int 0]) (rest := []) ⟨hx, hb, hml, hown, hts⟩ (c_X1_holds_0 l D N0 cA cL E h d (th) z c) (cwV 1 hts gX1_sing_X1_holds rfl rfl rfl (by decide +kernel) ⟨Nat.le_of_ble_eq_true rfl, Nat.le_of_ble_eq_true rfl⟩) ⟨zPre.blind, va_recv hK hP (ci := 1) (q0 := 0) rfl rfl, zPre.call hN hP hD hK hE hS⟩ rfl rfl hl.1 rfl (lv_room (Nat.le_of_ble_eq_true rfl)) dX1_sing_24 ⟨Nat.zero_le _, Nat.zero_le _⟩) hS (fun _ _ h9 => h9) (fun _ h9 => h9) (fun r_24 _ t H locs ht hvm h_24 hB hz1 hk1 hS => ?_)
      have h_24 : r_24 = 1 := h_24
      subst h_24
      obtain ⟨hP, hD⟩ := hB
      rw [ht] at hP
      have hP : va_P D vwCl (wM h d cA (0) z c ++ E) H := hP
      have hD : va_D (zA N0) (wM h d cA (0) z c ++ E) := hD
      refine lv_if_eq (tgt := 39) hx hb dX1_sing_27 (by decide) (fun c_27 => absurd c_27 (by decide)) (fun _ => ?_)
      refine lv_aload_n hx hb dX1_sing_30 rfl (lv_at hl 0 rfl) ?_
      refine lv_iload_n hx hb dX1_sing_31 rfl (lv_at hl 1 rfl) ?_
      refine lv_iload_n hx hb dX1_sing_32 rfl (lv_at hl 2 rfl) ?_
      refine va_calli (va_runV (As := [.int w, .int p]) (rest := []) ⟨hx, hb, hml, hown, hts⟩ (c_X1_sings l D N0 cA cL E h d (0) z c w p hc hw hp hz) (cwV 2 hts gX1_sing_X1_sings rfl rfl rfl (by decide +kernel) ⟨Nat.le_of_ble_eq_true rfl, Nat.le_of_ble_eq_true rfl⟩) ⟨zPre.blind, va_recv hK hP (ci := 1) (q0 := 0) rfl rfl, zPre.call hN hP hD hK hE hS⟩ rfl rfl hl.1 rfl (lv_room (Nat.le_of_ble_eq_true rfl)) dX1_sing_33 ⟨Nat.zero_le _, Nat.zero_le _⟩) hS (fun _ _ h9 => h9) (fun _ h9 => h9) (fun r_33 _ t H locs ht hvm h_33 hB hz1 hk1 hS => ?_)
      have h_33 : r_33 = (zOut c w.toNatClampNeg p z) := h_33
      subst h_33
      obtain ⟨hP, hD⟩ := hB
      rw [ht] at hP
      have hP : va_P D vwCl (wM h d cA (0) (zSg c w.toNatClampNeg p z) c ++ E) H := hP
      have hD : va_D (zA N0) (wM h d cA (0) (zSg c w.toNatClampNeg p z) c ++ E) := hD
      refine lv_goto (tgt := 40) hx hb dX1_sing_36 (by decide) ?_
      exact W.iret (v := (zOut c w.toNatClampNeg p z)) hx hb hr (fun t ht hW => ⟨⟨_, (), rfl, rfl, ⟨by rw [ht]; exact hP, hD⟩⟩, hS.F ht⟩) hS.2.2 dX1_sing_40
  · exact absurd hw (zb_f c_5)

set_option maxHeartbeats 4000000 in
set_option maxRecDepth 100000 in
theorem c_X1_sing_1 (l : Launch) (D : va_G) (N0 : Nat) (cA cL : ClassId) (E : va_W) (h : Nat) (d : Nat → Nat) (th : Int32) (z : S7) (c : C5) (w : Int32) (p : Int32) (hw : ¬ zw w) : Met l yX1_sing wsX1_sing ({ frames := 2, cells := 0, slots := 0, locals := 42 }) (va_Pc [.ref h, .int w, .int p] (zPre D N0 cA cL (wM h d cA (th) z c ++ E))) (va_Qi (fun (rv : Int32) (_ : Unit) => rv = 0) (fun _ t => zPost D N0 (wM h d cA (1) z c ++ E) t) (zA N0)) 0 0 (zA N0) := by
  refine Met.ofW (cc := cX1_sing) (maxL := 3) (ret := (some .int)) (by decide) rfl ?_
  intro pr e s m ag below meth cd s₁ B hml hv
  obtain ⟨rfl, hN, hP, hD, hK, hE⟩ := hv
  have hx := B.exec
  have hb := B.bytes
  have hr := B.returns
  have hts := atoms_spec (ws := wsX1_sing) B.pre
  have hown : s.vm.findClass RX1 = some m.cls := findClass_of_methodNamed B.named
  have hlocks := B.notSynchronized
  have hS : va_S (zA N0) s.heap s.heap [] := va_S.rf
  have hl := lv_entry ([.ref h, .int w, .int p]) (n := 3) (Nat.le_of_ble_eq_true rfl)
  rw [lg_entry_eq]
  generalize (lg_sl ([.ref h, .int w, .int p]) ++ List.replicate (3 - (lg_sl ([.ref h, .int w, .int p])).length) Slot.unset).toArray = ls at hl ⊢
  have hl : lv_has ls 3 [(0, .ref h), (1, .int w), (2, .int p)] := hl
  refine lv_aload_n hx hb dX1_sing_0 rfl (lv_at hl 0 rfl) ?_
  refine lv_iload_n hx hb dX1_sing_1 rfl (lv_at hl 1 rfl) ?_
  refine vp_callSi ((va_runS (As := [.int w]) (rest := [.ref h]) ⟨hx, hb, hml, hown, hts⟩ (c_X1_isWren l w) (va_cwS 1 hts gX1_sing_X1_isWren rfl rfl rfl (by decide +kernel) ⟨Nat.le_of_ble_eq_true rfl, Nat.le_of_ble_eq_true rfl⟩) ⟨zT.blind, zT.call⟩ rfl rfl hl.1 rfl (lv_room (Nat.le_of_ble_eq_true rfl)) dX1_sing_2 ⟨Nat.zero_le _, Nat.zero_le _⟩).run) (fun r_2 h_2 => ?_)
  have h_2 : r_2 = (zb (zw w)) := h_2
  subst h_2
  refine lv_if_ne (tgt := 12) hx hb dX1_sing_5 (by decide) (fun c_5 => ?_) (fun c_5 => ?_)
  · exact absurd (zb_t c_5) hw
  · refine lv_iconst (v := 1) hx hb dX1_sing_8 (by decide) ?_
    refine lv_goto (tgt := 24) hx hb dX1_sing_9 (by decide) ?_
    refine va_calli (va_runV (As := [.int 1]) (rest := []) ⟨hx, hb, hml, hown, hts⟩ (c_X1_holds_n l D N0 cA cL E h d (th) z c 1 (by decide)) (cwV 1 hts gX1_sing_X1_holds rfl rfl rfl (by decide +kernel) ⟨Nat.le_of_ble_eq_true rfl, Nat.le_of_ble_eq_true rfl⟩) ⟨zPre.blind, va_recv hK hP (ci := 1) (q0 := 0) rfl rfl, zPre.call hN hP hD hK hE hS⟩ rfl rfl hl.1 rfl (lv_room (Nat.le_of_ble_eq_true rfl)) dX1_sing_24 ⟨Nat.zero_le _, Nat.zero_le _⟩) hS (fun _ _ h9 => h9) (fun _ h9 => h9) (fun r_24 _ t H locs ht hvm h_24 hB hz1 hk1 hS => ?_)
    have h_24 : r_24 = 0 := h_24
    subst h_24
    obtain ⟨hP, hD⟩ := hB
    rw [ht] at hP
    have hP : va_P D vwCl (wM h d cA (1) z c ++ E) H := hP
    have hD : va_D (zA N0) (wM h d cA (1) z c ++ E) := hD
    refine lv_if_eq (tgt := 39) hx hb dX1_sing_27 (by decide) (fun _ => ?_) (fun c_27 => absurd c_27 (by decide))
    refine lv_iconst (v := 0) hx hb dX1_sing_39 (by decide) ?_
    exact W.iret (v := 0) hx hb hr (fun t ht hW => ⟨⟨_, (), rfl, rfl, ⟨by rw [ht]; exact hP, hD⟩⟩, hS.F ht⟩) hS.2.2 dX1_sing_40

set_option maxHeartbeats 4000000 in
set_option maxRecDepth 100000 in
theorem c_X1_sing_2 (l : Launch) (D : va_G) (N0 : Nat) (cA cL : ClassId) (E : va_W) (h : Nat) (d : Nat → Nat) (th : Int32) (z : S7) (c : C5) (w : Int32) (p : Int32) (hw : zw w) (hp : ¬ zp p) : Met l yX1_sing wsX1_sing ({ frames := 2, cells := 0, slots := 0, locals := 42 }) (va_Pc [.ref h, .int w, .int p] (zPre D N0 cA cL (wM h d cA (th) z c ++ E))) (va_Qi (fun (rv : Int32) (_ : Unit) => rv = 0) (fun _ t => zPost D N0 (wM h d cA (2) z c ++ E) t) (zA N0)) 0 0 (zA N0) := by
  refine Met.ofW (cc := cX1_sing) (maxL := 3) (ret := (some .int)) (by decide) rfl ?_
  intro pr e s m ag below meth cd s₁ B hml hv
  obtain ⟨rfl, hN, hP, hD, hK, hE⟩ := hv
  have hx := B.exec
  have hb := B.bytes
  have hr := B.returns
  have hts := atoms_spec (ws := wsX1_sing) B.pre
  have hown : s.vm.findClass RX1 = some m.cls := findClass_of_methodNamed B.named
  have hlocks := B.notSynchronized
  have hS : va_S (zA N0) s.heap s.heap [] := va_S.rf
  have hl := lv_entry ([.ref h, .int w, .int p]) (n := 3) (Nat.le_of_ble_eq_true rfl)
  rw [lg_entry_eq]
  generalize (lg_sl ([.ref h, .int w, .int p]) ++ List.replicate (3 - (lg_sl ([.ref h, .int w, .int p])).length) Slot.unset).toArray = ls at hl ⊢
  have hl : lv_has ls 3 [(0, .ref h), (1, .int w), (2, .int p)] := hl
  refine lv_aload_n hx hb dX1_sing_0 rfl (lv_at hl 0 rfl) ?_
  refine lv_iload_n hx hb dX1_sing_1 rfl (lv_at hl 1 rfl) ?_
  refine vp_callSi ((va_runS (As := [.int w]) (rest := [.ref h]) ⟨hx, hb, hml, hown, hts⟩ (c_X1_isWren l w) (va_cwS 1 hts gX1_sing_X1_isWren rfl rfl rfl (by decide +kernel) ⟨Nat.le_of_ble_eq_true rfl, Nat.le_of_ble_eq_true rfl⟩) ⟨zT.blind, zT.call⟩ rfl rfl hl.1 rfl (lv_room (Nat.le_of_ble_eq_true rfl)) dX1_sing_2 ⟨Nat.zero_le _, Nat.zero_le _⟩).run) (fun r_2 h_2 => ?_)
  have h_2 : r_2 = (zb (zw w)) := h_2
  subst h_2
  refine lv_if_ne (tgt := 12) hx hb dX1_sing_5 (by decide) (fun c_5 => ?_) (fun c_5 => ?_)
  · refine lv_iload_n hx hb dX1_sing_12 rfl (lv_at hl 2 rfl) ?_
    refine vp_callSi ((va_runS (As := [.int p]) (rest := [.ref h]) ⟨hx, hb, hml, hown, hts⟩ (c_X1_isPitch l p) (va_cwS 1 hts gX1_sing_X1_isPitch rfl rfl rfl (by decide +kernel) ⟨Nat.le_of_ble_eq_true rfl, Nat.le_of_ble_eq_true rfl⟩) ⟨zT.blind, zT.call⟩ rfl rfl hl.1 rfl (lv_room (Nat.le_of_ble_eq_true rfl)) dX1_sing_13 ⟨Nat.zero_le _, Nat.zero_le _⟩).run) (fun r_13 h_13 => ?_)
    have h_13 : r_13 = (zb (zp p)) := h_13
    subst h_13
    refine lv_if_eq (tgt := 23) hx hb dX1_sing_16 (by decide) (fun c_16 => ?_) (fun c_16 => ?_)
    · refine lv_iconst (v := 2) hx hb dX1_sing_23 (by decide) ?_
      refine va_calli (va_runV (As := [.int 2]) (rest := []) ⟨hx, hb, hml, hown, hts⟩ (c_X1_holds_n l D N0 cA cL E h d (th) z c 2 (by decide)) (cwV 1 hts gX1_sing_X1_holds rfl rfl rfl (by decide +kernel) ⟨Nat.le_of_ble_eq_true rfl, Nat.le_of_ble_eq_true rfl⟩) ⟨zPre.blind, va_recv hK hP (ci := 1) (q0 := 0) rfl rfl, zPre.call hN hP hD hK hE hS⟩ rfl rfl hl.1 rfl (lv_room (Nat.le_of_ble_eq_true rfl)) dX1_sing_24 ⟨Nat.zero_le _, Nat.zero_le _⟩) hS (fun _ _ h9 => h9) (fun _ h9 => h9) (fun r_24 _ t H locs ht hvm h_24 hB hz1 hk1 hS => ?_)
      have h_24 : r_24 = 0 := h_24
      subst h_24
      obtain ⟨hP, hD⟩ := hB
      rw [ht] at hP
      have hP : va_P D vwCl (wM h d cA (2) z c ++ E) H := hP
      have hD : va_D (zA N0) (wM h d cA (2) z c ++ E) := hD
      refine lv_if_eq (tgt := 39) hx hb dX1_sing_27 (by decide) (fun _ => ?_) (fun c_27 => absurd c_27 (by decide))
      refine lv_iconst (v := 0) hx hb dX1_sing_39 (by decide) ?_
      exact W.iret (v := 0) hx hb hr (fun t ht hW => ⟨⟨_, (), rfl, rfl, ⟨by rw [ht]; exact hP, hD⟩⟩, hS.F ht⟩) hS.2.2 dX1_sing_40
    · exact absurd (zb_t c_16) hp
  · exact absurd hw (zb_f c_5)

theorem zLn_ok {c : C5} {r : Nat → Int32} (hr : ∀ i, r i = -1 ∨ (0 ≤ r i ∧ r i ≤ 12000)) : ∀ k i, (zLn c r k).1 i = -1 ∨ (0 ≤ (zLn c r k).1 i ∧ (zLn c r k).1 i ≤ 12000) := by
  intro k
  induction k with
  | zero => exact hr
  | succ k ih =>
    intro i
    by_cases h : ¬ (zLn c r k).1 k = -1 ∧ zStep c ((zLn c r k).1 k) = -1
    · rw [zLn_1 h.1 h.2]
      by_cases hi : i = k
      · rw [hi]; exact Or.inl pk_us
      · show upd (zLn c r k).1 k (-1) i = -1 ∨ (0 ≤ upd (zLn c r k).1 k (-1) i ∧ upd (zLn c r k).1 k (-1) i ≤ 12000)
        rw [pk_un hi]; exact ih i
    · rw [zLn_0 h]; exact ih i
theorem zLn_m {c : C5} {z : S7} (hz : okZ z) (k i : Nat) (h : (zLn c z.1 k).1 i < 0) : (zLn c z.1 k).1 i = -1 := by
  rcases zLn_ok (c := c) hz k i with q | ⟨q, -⟩
  · exact q
  · exact absurd h (Int32.not_lt.mpr q)

set_option maxHeartbeats 4000000 in
set_option maxRecDepth 100000 in
theorem c_X1_setScale_v (l : Launch) (D : va_G) (N0 : Nat) (cA cL : ClassId) (E : va_W) (h : Nat) (d : Nat → Nat) (th : Int32) (z : S7) (c : C5) (k2 m2 : Nat) (hc : okC c) (hk2 : k2 < 12) (hm2 : m2 < 8) (hz : okZ z) : Met l yX1_setScale wsX1_setScale ({ frames := 4, cells := 0, slots := 0, locals := 87 }) (va_Pc [.ref h, .int (nI k2), .int (nI m2)] (zPre D N0 cA cL (wM h d cA (th) z c ++ E))) (va_Qi (fun (rv : Int32) (_ : Unit) => rv = (zL (k2, m2, c.2.2.1, c.2.2.2.1, c.2.2.2.2) z.1).2) (fun _ t => zPost D N0 (wM h d cA (0) ((zL (k2, m2, c.2.2.1, c.2.2.2.1, c.2.2.2.2) z.1).1, z.2.1, z.2.2.1, z.2.2.2.1, z.2.2.2.2.1, z.2.2.2.2.2.1, z.2.2.2.2.2.2) (k2, m2, c.2.2.1, c.2.2.2.1, c.2.2.2.2) ++ E) t) (zA N0)) 0 0 (zA N0) := by
  refine Met.ofW (cc := cX1_setScale) (maxL := 5) (ret := (some .int)) (by decide) rfl ?_
  intro pr e s m ag below meth cd s₁ B hml hv
  obtain ⟨rfl, hN, hP, hD, hK, hE⟩ := hv
  have hx := B.exec
  have hb := B.bytes
  have hr := B.returns
  have hts := atoms_spec (ws := wsX1_setScale) B.pre
  have hown : s.vm.findClass RX1 = some m.cls := findClass_of_methodNamed B.named
  have hlocks := B.notSynchronized
  have hS : va_S (zA N0) s.heap s.heap [] := va_S.rf
  have hiw : ∀ w ∈ u_ws RX1 TX1 13, w ∈ wsX1_setScale := by decide +kernel
  have hl := lv_entry ([.ref h, .int (nI k2), .int (nI m2)]) (n := 5) (Nat.le_of_ble_eq_true rfl)
  rw [lg_entry_eq]
  generalize (lg_sl ([.ref h, .int (nI k2), .int (nI m2)]) ++ List.replicate (5 - (lg_sl ([.ref h, .int (nI k2), .int (nI m2)])).length) Slot.unset).toArray = ls at hl ⊢
  have hl : lv_has ls 5 [(0, .ref h), (1, .int (nI k2)), (2, .int (nI m2))] := hl
  have hc2 : okC (k2, m2, c.2.2.1, c.2.2.2.1, c.2.2.2.2) := ⟨hk2, hm2, hc.2.2⟩
  have loop : ∀ (n : Nat) (k : Nat), k ≤ 4 → 5 ≤ k + n → ∀ (H : Heap) (locs : List Loc), va_P D vwCl (wM h d cA (0) ((zLn (k2, m2, c.2.2.1, c.2.2.2.1, c.2.2.2.2) z.1 k).1, z.2.1, z.2.2.1, z.2.2.2.1, z.2.2.2.2.1, z.2.2.2.2.2.1, z.2.2.2.2.2.2) (k2, m2, c.2.2.1, c.2.2.2.1, c.2.2.2.2) ++ E) H → va_D (zA N0) (wM h d cA (0) ((zLn (k2, m2, c.2.2.1, c.2.2.2.1, c.2.2.2.2) z.1 k).1, z.2.1, z.2.2.1, z.2.2.2.1, z.2.2.2.2.1, z.2.2.2.2.2.1, z.2.2.2.2.2.2) (k2, m2, c.2.2.1, c.2.2.2.1, c.2.2.2.2) ++ E) → va_S (zA N0) s.heap H locs → ∀ (ls : Array Slot), lv_has ls 5 [(4, .int (nI k)), (3, .int ((zLn (k2, m2, c.2.2.1, c.2.2.2.1, c.2.2.2.2) z.1 k).2)), (0, .ref h), (1, .int (nI k2)), (2, .int (nI m2))] → W pr l e (headSpec wsX1_setScale ({ frames := 4, cells := 0, slots := 0, locals := 87 })).room s m ([.ref h, .int (nI k2), .int (nI m2)] : List Value).toArray below meth cd H locs 0 0 (MQ below (va_Qi (fun (rv : Int32) (_ : Unit) => rv = (zL (k2, m2, c.2.2.1, c.2.2.2.1, c.2.2.2.2) z.1).2) (fun _ t => zPost D N0 (wM h d cA (0) ((zL (k2, m2, c.2.2.1, c.2.2.2.1, c.2.2.2.2) z.1).1, z.2.1, z.2.2.1, z.2.2.2.1, z.2.2.2.2.1, z.2.2.2.2.2.1, z.2.2.2.2.2.2) (k2, m2, c.2.2.1, c.2.2.2.1, c.2.2.2.2) ++ E) t) (zA N0)) ([.ref h, .int (nI k2), .int (nI m2)] : List Value).toArray s 0 0 (zA N0)) (F0 m 37 ls []) := by
    intro n
    induction n with
    | zero =>
      intro k hk hn
      omega
    | succ n ih =>
      intro k hk hn H locs hP hD hS ls hl
      refine lv_iload hx hb dX1_setScale_37 (lv_at hl 0 rfl) ?_
      refine lv_iconst (v := 4) hx hb dX1_setScale_39 (by decide) ?_
      refine lv_icmp_ge (tgt := 84) hx hb dX1_setScale_40 (by decide) (fun c_40 => ?_) (fun c_40 => ?_)
      · have hk4 : k = 4 := by have := (nI_leI (a := 4) (by decide) (by omega)).mp c_40; omega
        subst hk4
        refine lv_iload_n hx hb dX1_setScale_84 rfl (lv_at hl 1 rfl) ?_
        exact W.iret (v := (zLn (k2, m2, c.2.2.1, c.2.2.2.1, c.2.2.2.2) z.1 4).2) hx hb hr (fun t ht hW => ⟨⟨_, (), rfl, rfl, ⟨by rw [ht]; exact hP, hD⟩⟩, hS.F ht⟩) hS.2.2 dX1_setScale_85
      · have hk4 : k < 4 := by
          rcases Nat.lt_or_ge k 4 with q | q
          · exact q
          · exact absurd ((nI_leI (a := 4) (by decide) (by omega)).mpr q) c_40
        refine lv_aload_n hx hb dX1_setScale_43 rfl (lv_at hl 2 rfl) ?_
        refine va_get (D := D) (ci := 1) (v := .ref (d 0)) (C := RX1) (T := TX1) (N := 13) hx hb hts hiw hown hK hP 0 rfl rfl 6 (by decide) (hts (.fieldLink RX1 19 "TunedWrensModel" "rungs" "[I") (by decide +kernel)) (fun _ h9 => h9) rfl dX1_setScale_44 ?_
        refine lv_iload hx hb dX1_setScale_47 (lv_at hl 0 rfl) ?_
        refine va_iald hx hb hK hP 1 0 rfl rfl (vp_in_nI hk4 (by decide)) dX1_setScale_49 ?_
        rw [show (((zLn (k2, m2, c.2.2.1, c.2.2.2.1, c.2.2.2.2) z.1 k).1 (nI k).toNatClampNeg) : Int32) = ((zLn (k2, m2, c.2.2.1, c.2.2.2.1, c.2.2.2.2) z.1 k).1 k) from (by rw [nI_clamp (by omega)])]
        refine lv_if_lt (tgt := 78) hx hb dX1_setScale_50 (by decide) (fun c_50 => ?_) (fun c_50 => ?_)
        · refine lv_iinc (v := (nI (k + 1))) (lv' := [(4, .int (nI (k + 1))), (3, .int ((zLn (k2, m2, c.2.2.1, c.2.2.2.1, c.2.2.2.2) z.1 k).2)), (0, .ref h), (1, .int (nI k2)), (2, .int (nI m2))]) hx hb dX1_setScale_78 hl (k := 0) rfl (z_inc k 1) (by decide) rfl (fun ls hl => ?_)
          refine lv_goto (tgt := 37) hx hb dX1_setScale_81 (by decide) ?_
          have hl : lv_has ls 5 [(4, .int (nI (k + 1))), (3, .int ((zLn (k2, m2, c.2.2.1, c.2.2.2.1, c.2.2.2.2) z.1 (k + 1)).2)), (0, .ref h), (1, .int (nI k2)), (2, .int (nI m2))] := by
            rw [show ((zLn (k2, m2, c.2.2.1, c.2.2.2.1, c.2.2.2.2) z.1 (k + 1)).2 : Int32) = (zLn (k2, m2, c.2.2.1, c.2.2.2.1, c.2.2.2.2) z.1 k).2 from (by rw [zLn_0 (fun q => q.1 (zLn_m hz k k c_50))])]
            exact hl
          have hP : va_P D vwCl (wM h d cA (0) ((zLn (k2, m2, c.2.2.1, c.2.2.2.1, c.2.2.2.2) z.1 (k + 1)).1, z.2.1, z.2.2.1, z.2.2.2.1, z.2.2.2.2.1, z.2.2.2.2.2.1, z.2.2.2.2.2.2) (k2, m2, c.2.2.1, c.2.2.2.1, c.2.2.2.2) ++ E) H := by
            rw [show ((zLn (k2, m2, c.2.2.1, c.2.2.2.1, c.2.2.2.2) z.1 (k + 1)).1 : Nat → Int32) = (zLn (k2, m2, c.2.2.1, c.2.2.2.1, c.2.2.2.2) z.1 k).1 from (by rw [zLn_0 (fun q => q.1 (zLn_m hz k k c_50))])]
            exact hP
          have hD : va_D (zA N0) (wM h d cA (0) ((zLn (k2, m2, c.2.2.1, c.2.2.2.1, c.2.2.2.2) z.1 (k + 1)).1, z.2.1, z.2.2.1, z.2.2.2.1, z.2.2.2.2.1, z.2.2.2.2.2.1, z.2.2.2.2.2.2) (k2, m2, c.2.2.1, c.2.2.2.1, c.2.2.2.2) ++ E) := by
            rw [show ((zLn (k2, m2, c.2.2.1, c.2.2.2.1, c.2.2.2.2) z.1 (k + 1)).1 : Nat → Int32) = (zLn (k2, m2, c.2.2.1, c.2.2.2.1, c.2.2.2.2) z.1 k).1 from (by rw [zLn_0 (fun q => q.1 (zLn_m hz k k c_50))])]
            exact hD
          exact ih (k + 1) (by omega) (by omega) _ _ hP hD hS ls (lv_sub hl [0, 1, 2, 3, 4] rfl)
        · refine lv_aload_n hx hb dX1_setScale_53 rfl (lv_at hl 2 rfl) ?_
          refine lv_aload_n hx hb dX1_setScale_54 rfl (lv_at hl 2 rfl) ?_
          refine va_get (D := D) (ci := 1) (v := .ref (d 0)) (C := RX1) (T := TX1) (N := 13) hx hb hts hiw hown hK hP 0 rfl rfl 6 (by decide) (hts (.fieldLink RX1 19 "TunedWrensModel" "rungs" "[I") (by decide +kernel)) (fun _ h9 => h9) rfl dX1_setScale_55 ?_
          refine lv_iload hx hb dX1_setScale_58 (lv_at hl 0 rfl) ?_
          refine va_iald hx hb hK hP 1 0 rfl rfl (vp_in_nI hk4 (by decide)) dX1_setScale_60 ?_
          rw [show (((zLn (k2, m2, c.2.2.1, c.2.2.2.1, c.2.2.2.2) z.1 k).1 (nI k).toNatClampNeg) : Int32) = ((zLn (k2, m2, c.2.2.1, c.2.2.2.1, c.2.2.2.2) z.1 k).1 k) from (by rw [nI_clamp (by omega)])]
          refine vp_callSi ((va_runV (As := [.int ((zLn (k2, m2, c.2.2.1, c.2.2.2.1, c.2.2.2.2) z.1 k).1 k)]) (rest := []) ⟨hx, hb, hml, hown, hts⟩ (c_X1_step l D N0 cA cL E h d (0) ((zLn (k2, m2, c.2.2.1, c.2.2.2.1, c.2.2.2.2) z.1 k).1, z.2.1, z.2.2.1, z.2.2.2.1, z.2.2.2.2.1, z.2.2.2.2.2.1, z.2.2.2.2.2.2) (k2, m2, c.2.2.1, c.2.2.2.1, c.2.2.2.2) ((zLn (k2, m2, c.2.2.1, c.2.2.2.1, c.2.2.2.2) z.1 k).1 k) hc2) (cwV 1 hts gX1_setScale_X1_step rfl rfl rfl (by decide +kernel) ⟨Nat.le_of_ble_eq_true rfl, Nat.le_of_ble_eq_true rfl⟩) ⟨zPre.blind, va_recv hK hP (ci := 1) (q0 := 0) rfl rfl, zPre.call hN hP hD hK hE hS⟩ rfl rfl hl.1 rfl (lv_room (Nat.le_of_ble_eq_true rfl)) dX1_setScale_61 ⟨Nat.zero_le _, Nat.zero_le _⟩).run) (fun r_61 h_61 => ?_)
          have h_61 : r_61 = (zStep (k2, m2, c.2.2.1, c.2.2.2.1, c.2.2.2.2) ((zLn (k2, m2, c.2.2.1, c.2.2.2.1, c.2.2.2.2) z.1 k).1 k)) := h_61
          subst h_61
          refine lv_if_ge (tgt := 78) hx hb dX1_setScale_64 (by decide) (fun c_64 => ?_) (fun c_64 => ?_)
          · refine lv_iinc (v := (nI (k + 1))) (lv' := [(4, .int (nI (k + 1))), (3, .int ((zLn (k2, m2, c.2.2.1, c.2.2.2.1, c.2.2.2.2) z.1 k).2)), (0, .ref h), (1, .int (nI k2)), (2, .int (nI m2))]) hx hb dX1_setScale_78 hl (k := 0) rfl (z_inc k 1) (by decide) rfl (fun ls hl => ?_)
            refine lv_goto (tgt := 37) hx hb dX1_setScale_81 (by decide) ?_
            have hl : lv_has ls 5 [(4, .int (nI (k + 1))), (3, .int ((zLn (k2, m2, c.2.2.1, c.2.2.2.1, c.2.2.2.2) z.1 (k + 1)).2)), (0, .ref h), (1, .int (nI k2)), (2, .int (nI m2))] := by
              rw [show ((zLn (k2, m2, c.2.2.1, c.2.2.2.1, c.2.2.2.2) z.1 (k + 1)).2 : Int32) = (zLn (k2, m2, c.2.2.1, c.2.2.2.1, c.2.2.2.2) z.1 k).2 from (by rw [zLn_0 (fun q => Int32.not_lt.mpr c_64 ((zStep_neg hc2 _).mpr q.2))])]
              exact hl
            have hP : va_P D vwCl (wM h d cA (0) ((zLn (k2, m2, c.2.2.1, c.2.2.2.1, c.2.2.2.2) z.1 (k + 1)).1, z.2.1, z.2.2.1, z.2.2.2.1, z.2.2.2.2.1, z.2.2.2.2.2.1, z.2.2.2.2.2.2) (k2, m2, c.2.2.1, c.2.2.2.1, c.2.2.2.2) ++ E) H := by
              rw [show ((zLn (k2, m2, c.2.2.1, c.2.2.2.1, c.2.2.2.2) z.1 (k + 1)).1 : Nat → Int32) = (zLn (k2, m2, c.2.2.1, c.2.2.2.1, c.2.2.2.2) z.1 k).1 from (by rw [zLn_0 (fun q => Int32.not_lt.mpr c_64 ((zStep_neg hc2 _).mpr q.2))])]
              exact hP
            have hD : va_D (zA N0) (wM h d cA (0) ((zLn (k2, m2, c.2.2.1, c.2.2.2.1, c.2.2.2.2) z.1 (k + 1)).1, z.2.1, z.2.2.1, z.2.2.2.1, z.2.2.2.2.1, z.2.2.2.2.2.1, z.2.2.2.2.2.2) (k2, m2, c.2.2.1, c.2.2.2.1, c.2.2.2.2) ++ E) := by
              rw [show ((zLn (k2, m2, c.2.2.1, c.2.2.2.1, c.2.2.2.2) z.1 (k + 1)).1 : Nat → Int32) = (zLn (k2, m2, c.2.2.1, c.2.2.2.1, c.2.2.2.2) z.1 k).1 from (by rw [zLn_0 (fun q => Int32.not_lt.mpr c_64 ((zStep_neg hc2 _).mpr q.2))])]
              exact hD
            exact ih (k + 1) (by omega) (by omega) _ _ hP hD hS ls (lv_sub hl [0, 1, 2, 3, 4] rfl)
          · refine lv_aload_n hx hb dX1_setScale_67 rfl (lv_at hl 2 rfl) ?_
            refine va_get (D := D) (ci := 1) (v := .ref (d 0)) (C := RX1) (T := TX1) (N := 13) hx hb hts hiw hown hK hP 0 rfl rfl 6 (by decide) (hts (.fieldLink RX1 19 "TunedWrensModel" "rungs" "[I") (by decide +kernel)) (fun _ h9 => h9) rfl dX1_setScale_68 ?_
            refine lv_iload hx hb dX1_setScale_71 (lv_at hl 0 rfl) ?_
            refine lv_iconst (v := (-1)) hx hb dX1_setScale_73 (by decide) ?_
            refine va_iast hx hb hK hP hD hS 1 0 rfl rfl (vp_in_nI hk4 (by decide)) dX1_setScale_74 (fun H locs hP hD hS => ?_)
            have hP : va_P D vwCl (wM h d cA (0) ((upd ((zLn (k2, m2, c.2.2.1, c.2.2.2.1, c.2.2.2.2) z.1 k).1) (nI k).toNatClampNeg (-1)), z.2.1, z.2.2.1, z.2.2.2.1, z.2.2.2.2.1, z.2.2.2.2.2.1, z.2.2.2.2.2.2) (k2, m2, c.2.2.1, c.2.2.2.1, c.2.2.2.2) ++ E) H := hP
            have hD : va_D (zA N0) (wM h d cA (0) ((upd ((zLn (k2, m2, c.2.2.1, c.2.2.2.1, c.2.2.2.2) z.1 k).1) (nI k).toNatClampNeg (-1)), z.2.1, z.2.2.1, z.2.2.2.1, z.2.2.2.2.1, z.2.2.2.2.2.1, z.2.2.2.2.2.2) (k2, m2, c.2.2.1, c.2.2.2.1, c.2.2.2.2) ++ E) := hD
            refine lv_iinc (v := ((zLn (k2, m2, c.2.2.1, c.2.2.2.1, c.2.2.2.2) z.1 k).2 + 1)) (lv' := [(3, .int ((zLn (k2, m2, c.2.2.1, c.2.2.2.1, c.2.2.2.2) z.1 k).2 + 1)), (4, .int (nI k)), (0, .ref h), (1, .int (nI k2)), (2, .int (nI m2))]) hx hb dX1_setScale_75 hl (k := 1) rfl rfl (by decide) rfl (fun ls hl => ?_)
            refine lv_iinc (v := (nI (k + 1))) (lv' := [(4, .int (nI (k + 1))), (3, .int ((zLn (k2, m2, c.2.2.1, c.2.2.2.1, c.2.2.2.2) z.1 k).2 + 1)), (0, .ref h), (1, .int (nI k2)), (2, .int (nI m2))]) hx hb dX1_setScale_78 hl (k := 1) rfl (z_inc k 1) (by decide) rfl (fun ls hl => ?_)
            refine lv_goto (tgt := 37) hx hb dX1_setScale_81 (by decide) ?_
            have hl : lv_has ls 5 [(4, .int (nI (k + 1))), (3, .int ((zLn (k2, m2, c.2.2.1, c.2.2.2.1, c.2.2.2.2) z.1 (k + 1)).2)), (0, .ref h), (1, .int (nI k2)), (2, .int (nI m2))] := by
              rw [show ((zLn (k2, m2, c.2.2.1, c.2.2.2.1, c.2.2.2.2) z.1 (k + 1)).2 : Int32) = ((zLn (k2, m2, c.2.2.1, c.2.2.2.1, c.2.2.2.2) z.1 k).2 + 1) from (by rw [zLn_1 (okZ_p c_50) ((zStep_neg hc2 _).mp (Int32.not_le.mp c_64))])]
              exact hl
            have hP : va_P D vwCl (wM h d cA (0) ((zLn (k2, m2, c.2.2.1, c.2.2.2.1, c.2.2.2.2) z.1 (k + 1)).1, z.2.1, z.2.2.1, z.2.2.2.1, z.2.2.2.2.1, z.2.2.2.2.2.1, z.2.2.2.2.2.2) (k2, m2, c.2.2.1, c.2.2.2.1, c.2.2.2.2) ++ E) H := by
              rw [show ((zLn (k2, m2, c.2.2.1, c.2.2.2.1, c.2.2.2.2) z.1 (k + 1)).1 : Nat → Int32) = (upd ((zLn (k2, m2, c.2.2.1, c.2.2.2.1, c.2.2.2.2) z.1 k).1) (nI k).toNatClampNeg (-1)) from (by rw [zLn_1 (okZ_p c_50) ((zStep_neg hc2 _).mp (Int32.not_le.mp c_64)), nI_clamp (show k < 2 ^ 31 by omega)])]
              exact hP
            have hD : va_D (zA N0) (wM h d cA (0) ((zLn (k2, m2, c.2.2.1, c.2.2.2.1, c.2.2.2.2) z.1 (k + 1)).1, z.2.1, z.2.2.1, z.2.2.2.1, z.2.2.2.2.1, z.2.2.2.2.2.1, z.2.2.2.2.2.2) (k2, m2, c.2.2.1, c.2.2.2.1, c.2.2.2.2) ++ E) := by
              rw [show ((zLn (k2, m2, c.2.2.1, c.2.2.2.1, c.2.2.2.2) z.1 (k + 1)).1 : Nat → Int32) = (upd ((zLn (k2, m2, c.2.2.1, c.2.2.2.1, c.2.2.2.2) z.1 k).1) (nI k).toNatClampNeg (-1)) from (by rw [zLn_1 (okZ_p c_50) ((zStep_neg hc2 _).mp (Int32.not_le.mp c_64)), nI_clamp (show k < 2 ^ 31 by omega)])]
              exact hD
            exact ih (k + 1) (by omega) (by omega) _ _ hP hD hS ls (lv_sub hl [0, 1, 2, 3, 4] rfl)
  refine lv_aload_n hx hb dX1_setScale_0 rfl (lv_at hl 0 rfl) ?_
  refine lv_iload_n hx hb dX1_setScale_1 rfl (lv_at hl 1 rfl) ?_
  refine lv_iload_n hx hb dX1_setScale_2 rfl (lv_at hl 2 rfl) ?_
  refine vp_callSi ((va_runS (As := [.int (nI k2), .int (nI m2)]) (rest := [.ref h]) ⟨hx, hb, hml, hown, hts⟩ (c_X1_isScale l (nI k2) (nI m2)) (va_cwS 2 hts gX1_setScale_X1_isScale rfl rfl rfl (by decide +kernel) ⟨Nat.le_of_ble_eq_true rfl, Nat.le_of_ble_eq_true rfl⟩) ⟨zT.blind, zT.call⟩ rfl rfl hl.1 rfl (lv_room (Nat.le_of_ble_eq_true rfl)) dX1_setScale_3 ⟨Nat.zero_le _, Nat.zero_le _⟩).run) (fun r_3 h_3 => ?_)
  have h_3 : r_3 = (zb ((0 ≤ (nI k2) ∧ (nI k2) ≤ 11) ∧ (0 ≤ (nI m2) ∧ (nI m2) ≤ 7))) := h_3
  subst h_3
  refine lv_if_eq (tgt := 13) hx hb dX1_setScale_6 (by decide) (fun c_6 => ?_) (fun c_6 => ?_)
  · exact absurd ⟨zn_in (n := 11) (by omega) (by decide), zn_in (n := 7) (by omega) (by decide)⟩ (zb_f c_6)
  · refine lv_iconst (v := 0) hx hb dX1_setScale_9 (by decide) ?_
    refine lv_goto (tgt := 14) hx hb dX1_setScale_10 (by decide) ?_
    refine va_calli (va_runV (As := [.int 0]) (rest := []) ⟨hx, hb, hml, hown, hts⟩ (c_X1_holds_0 l D N0 cA cL E h d (th) z c) (cwV 1 hts gX1_setScale_X1_holds rfl rfl rfl (by decide +kernel) ⟨Nat.le_of_ble_eq_true rfl, Nat.le_of_ble_eq_true rfl⟩) ⟨zPre.blind, va_recv hK hP (ci := 1) (q0 := 0) rfl rfl, zPre.call hN hP hD hK hE hS⟩ rfl rfl hl.1 rfl (lv_room (Nat.le_of_ble_eq_true rfl)) dX1_setScale_14 ⟨Nat.zero_le _, Nat.zero_le _⟩) hS (fun _ _ h9 => h9) (fun _ h9 => h9) (fun r_14 _ t H locs ht hvm h_14 hB hz1 hk1 hS => ?_)
    have h_14 : r_14 = 1 := h_14
    subst h_14
    obtain ⟨hP, hD⟩ := hB
    rw [ht] at hP
    have hP : va_P D vwCl (wM h d cA (0) z c ++ E) H := hP
    have hD : va_D (zA N0) (wM h d cA (0) z c ++ E) := hD
    refine lv_if_ne (tgt := 22) hx hb dX1_setScale_17 (by decide) (fun _ => ?_) (fun c_17 => absurd c_17 (by decide))
    refine lv_aload_n hx hb dX1_setScale_22 rfl (lv_at hl 0 rfl) ?_
    refine lv_iload_n hx hb dX1_setScale_23 rfl (lv_at hl 1 rfl) ?_
    refine va_put (D := D) (ci := 1) (v := .int (nI k2)) (ty := .int) (C := RX1) (T := TX1) (N := 13) hx hb hts hiw tyX1 tyX1_ok nmX1 hown hK hP hD hS 0 rfl rfl 1 (by decide) (hts (.fieldLink RX1 66 "TunedWrensModel" "key" "I") (by decide +kernel)) (fun _ h9 => h9) rfl (by decide +kernel) rfl rfl (Nat.le_of_ble_eq_true rfl) dX1_setScale_24 (fun H locs hP hD hS => ?_)
    have hP : va_P D vwCl (wM h d cA (0) z (k2, c.2.1, c.2.2.1, c.2.2.2.1, c.2.2.2.2) ++ E) H := hP
    have hD : va_D (zA N0) (wM h d cA (0) z (k2, c.2.1, c.2.2.1, c.2.2.2.1, c.2.2.2.2) ++ E) := hD
    refine lv_aload_n hx hb dX1_setScale_27 rfl (lv_at hl 0 rfl) ?_
    refine lv_iload_n hx hb dX1_setScale_28 rfl (lv_at hl 2 rfl) ?_
    refine va_put (D := D) (ci := 1) (v := .int (nI m2)) (ty := .int) (C := RX1) (T := TX1) (N := 13) hx hb hts hiw tyX1 tyX1_ok nmX1 hown hK hP hD hS 0 rfl rfl 2 (by decide) (hts (.fieldLink RX1 63 "TunedWrensModel" "mode" "I") (by decide +kernel)) (fun _ h9 => h9) rfl (by decide +kernel) rfl rfl (Nat.le_of_ble_eq_true rfl) dX1_setScale_29 (fun H locs hP hD hS => ?_)
    have hP : va_P D vwCl (wM h d cA (0) z (k2, m2, c.2.2.1, c.2.2.2.1, c.2.2.2.2) ++ E) H := hP
    have hD : va_D (zA N0) (wM h d cA (0) z (k2, m2, c.2.2.1, c.2.2.2.1, c.2.2.2.2) ++ E) := hD
    refine lv_iconst (v := 0) hx hb dX1_setScale_32 (by decide) ?_
    refine lv_istore_n (lv' := [(3, .int 0), (0, .ref h), (1, .int (nI k2)), (2, .int (nI m2))]) hx hb dX1_setScale_33 rfl hl (by decide) rfl (fun ls hl => ?_)
    refine lv_iconst (v := 0) hx hb dX1_setScale_34 (by decide) ?_
    refine lv_istore (lv' := [(4, .int 0), (3, .int 0), (0, .ref h), (1, .int (nI k2)), (2, .int (nI m2))]) hx hb dX1_setScale_35 hl (by decide) rfl (fun ls hl => ?_)
    exact loop 5 0 (by decide) (by decide) _ _ hP hD hS ls (lv_sub hl [0, 1, 2, 3, 4] rfl)

set_option maxHeartbeats 4000000 in
set_option maxRecDepth 100000 in
theorem c_X1_setScale_1 (l : Launch) (D : va_G) (N0 : Nat) (cA cL : ClassId) (E : va_W) (h : Nat) (d : Nat → Nat) (th : Int32) (z : S7) (c : C5) (a0 : Int32) (a1 : Int32) (hs : ¬ ((0 ≤ a0 ∧ a0 ≤ 11) ∧ (0 ≤ a1 ∧ a1 ≤ 7))) : Met l yX1_setScale wsX1_setScale ({ frames := 2, cells := 0, slots := 0, locals := 43 }) (va_Pc [.ref h, .int a0, .int a1] (zPre D N0 cA cL (wM h d cA (th) z c ++ E))) (va_Qi (fun (rv : Int32) (_ : Unit) => rv = 0) (fun _ t => zPost D N0 (wM h d cA (1) z c ++ E) t) (zA N0)) 0 0 (zA N0) := by
  refine Met.ofW (cc := cX1_setScale) (maxL := 5) (ret := (some .int)) (by decide) rfl ?_
  intro pr e s m ag below meth cd s₁ B hml hv
  obtain ⟨rfl, hN, hP, hD, hK, hE⟩ := hv
  have hx := B.exec
  have hb := B.bytes
  have hr := B.returns
  have hts := atoms_spec (ws := wsX1_setScale) B.pre
  have hown : s.vm.findClass RX1 = some m.cls := findClass_of_methodNamed B.named
  have hlocks := B.notSynchronized
  have hS : va_S (zA N0) s.heap s.heap [] := va_S.rf
  have hiw : ∀ w ∈ u_ws RX1 TX1 13, w ∈ wsX1_setScale := by decide +kernel
  have hl := lv_entry ([.ref h, .int a0, .int a1]) (n := 5) (Nat.le_of_ble_eq_true rfl)
  rw [lg_entry_eq]
  generalize (lg_sl ([.ref h, .int a0, .int a1]) ++ List.replicate (5 - (lg_sl ([.ref h, .int a0, .int a1])).length) Slot.unset).toArray = ls at hl ⊢
  have hl : lv_has ls 5 [(0, .ref h), (1, .int a0), (2, .int a1)] := hl
  refine lv_aload_n hx hb dX1_setScale_0 rfl (lv_at hl 0 rfl) ?_
  refine lv_iload_n hx hb dX1_setScale_1 rfl (lv_at hl 1 rfl) ?_
  refine lv_iload_n hx hb dX1_setScale_2 rfl (lv_at hl 2 rfl) ?_
  refine vp_callSi ((va_runS (As := [.int a0, .int a1]) (rest := [.ref h]) ⟨hx, hb, hml, hown, hts⟩ (c_X1_isScale l a0 a1) (va_cwS 2 hts gX1_setScale_X1_isScale rfl rfl rfl (by decide +kernel) ⟨Nat.le_of_ble_eq_true rfl, Nat.le_of_ble_eq_true rfl⟩) ⟨zT.blind, zT.call⟩ rfl rfl hl.1 rfl (lv_room (Nat.le_of_ble_eq_true rfl)) dX1_setScale_3 ⟨Nat.zero_le _, Nat.zero_le _⟩).run) (fun r_3 h_3 => ?_)
  have h_3 : r_3 = (zb ((0 ≤ a0 ∧ a0 ≤ 11) ∧ (0 ≤ a1 ∧ a1 ≤ 7))) := h_3
  subst h_3
  refine lv_if_eq (tgt := 13) hx hb dX1_setScale_6 (by decide) (fun c_6 => ?_) (fun c_6 => ?_)
  · refine lv_iconst (v := 1) hx hb dX1_setScale_13 (by decide) ?_
    refine va_calli (va_runV (As := [.int 1]) (rest := []) ⟨hx, hb, hml, hown, hts⟩ (c_X1_holds_n l D N0 cA cL E h d (th) z c 1 (by decide)) (cwV 1 hts gX1_setScale_X1_holds rfl rfl rfl (by decide +kernel) ⟨Nat.le_of_ble_eq_true rfl, Nat.le_of_ble_eq_true rfl⟩) ⟨zPre.blind, va_recv hK hP (ci := 1) (q0 := 0) rfl rfl, zPre.call hN hP hD hK hE hS⟩ rfl rfl hl.1 rfl (lv_room (Nat.le_of_ble_eq_true rfl)) dX1_setScale_14 ⟨Nat.zero_le _, Nat.zero_le _⟩) hS (fun _ _ h9 => h9) (fun _ h9 => h9) (fun r_14 _ t H locs ht hvm h_14 hB hz1 hk1 hS => ?_)
    have h_14 : r_14 = 0 := h_14
    subst h_14
    obtain ⟨hP, hD⟩ := hB
    rw [ht] at hP
    have hP : va_P D vwCl (wM h d cA (1) z c ++ E) H := hP
    have hD : va_D (zA N0) (wM h d cA (1) z c ++ E) := hD
    refine lv_if_ne (tgt := 22) hx hb dX1_setScale_17 (by decide) (fun c_17 => absurd c_17 (by decide)) (fun _ => ?_)
    refine lv_iconst (v := 0) hx hb dX1_setScale_20 (by decide) ?_
    exact W.iret (v := 0) hx hb hr (fun t ht hW => ⟨⟨_, (), rfl, rfl, ⟨by rw [ht]; exact hP, hD⟩⟩, hS.F ht⟩) hS.2.2 dX1_setScale_21
  · exact absurd (zb_t c_6) hs

theorem zNext_ok {c : C5} (hc : okC c) {r p : Int32} (hp : zp p) (h : r = -1 ∨ (0 ≤ r ∧ r ≤ 12000)) : zNext c r p = -1 ∨ (0 ≤ zNext c r p ∧ zNext c r p ≤ 12000) := by
  by_cases q : ¬ r = -1 ∧ zAbs (p - r) ≤ c.2.2.2.1
  · rw [← zNext_k q]; exact h
  · rw [← zNext_n q]; exact zNear_rng hc hp
theorem zSg_ok {c : C5} (hc : okC c) {z : S7} (hz : okZ z) (i : Nat) {p : Int32} (hp : zp p) : okZ (zSg c i p z) := by
  intro j
  show upd z.1 i (zR c i p z) j = -1 ∨ (0 ≤ upd z.1 i (zR c i p z) j ∧ upd z.1 i (zR c i p z) j ≤ 12000)
  by_cases hj : j = i
  · rw [hj, pk_us]; exact zNext_ok hc hp (hz i)
  · rw [pk_un hj]; exact hz j
theorem zSl_ok {c : C5} (hc : okC c) {z : S7} (hz : okZ z) (i : Nat) {a b : Int32} {f : Nat} (ha : zp a) (hb : zp b) (hf : 2 ≤ f) (hf2 : f ≤ 50) : ∀ k, k ≤ f → okZ (zSl c i a b f z k) := by
  intro k
  induction k with
  | zero => exact fun _ => hz
  | succ k ih => exact fun hk => zSg_ok hc (ih (by omega)) i (zPit_ok ha hb hf hf2 (by omega))
theorem zPit_M {a b : Int32} {f k : Nat} (ha : zp a) (hb : zp b) (hf : 2 ≤ f) (hf2 : f ≤ 50) (hk : k < f) : (a * (nI f - 1 - nI k) + b * nI k) / (nI f - 1) = zPit a b f k := by
  obtain ⟨m, hm, rfl⟩ := nI_of2 (n := 12000) (M := 12000) rfl (Int32.not_lt.mpr ha.1) ha.2
  obtain ⟨n, hn, rfl⟩ := nI_of2 (n := 12000) (M := 12000) rfl (Int32.not_lt.mpr hb.1) hb.2
  unfold zPit
  rw [nI_clamp (by omega), nI_clamp (by omega)]
  have e1 : nI f - 1 = nI (f - 1) := pk_sub (b := 1) (by omega)
  have h3 : m * (f - 1 - k) ≤ 12000 * 49 := Nat.mul_le_mul hm (by omega)
  have h4 : n * k ≤ 12000 * 49 := Nat.mul_le_mul hn (by omega)
  rw [e1, pk_sub (a := f - 1) (b := k) (by omega), pk_mul, pk_mul, nI_add]
  exact pk_div (by omega) (by omega) (by omega)

set_option maxHeartbeats 4000000 in
set_option maxRecDepth 100000 in
theorem c_X1_slide_v (l : Launch) (D : va_G) (N0 : Nat) (cA cL : ClassId) (E : va_W) (h : Nat) (d : Nat → Nat) (th : Int32) (z : S7) (c : C5) (w a b : Int32) (f : Nat) (hc : okC c) (hw : zw w) (hpa : zp a) (hpb : zp b) (hf : 2 ≤ f) (hf2 : f ≤ 50) (hz : okZ z) : Met l yX1_slide wsX1_slide ({ frames := 7, cells := 0, slots := 0, locals := 165 }) (va_Pc [.ref h, .int w, .int a, .int b, .int (nI f)] (zPre D N0 cA cL (wM h d cA (th) z c ++ E))) (va_Qi (fun (rv : Int32) (_ : Unit) => rv = (zSl c w.toNatClampNeg a b f z f).2.2.2.1 w.toNatClampNeg - z.2.2.2.1 w.toNatClampNeg) (fun _ t => zPost D N0 (wM h d cA (0) (zSl c w.toNatClampNeg a b f z f) c ++ E) t) (zA N0)) 0 0 (zA N0) := by
  refine Met.ofW (cc := cX1_slide) (maxL := 8) (ret := (some .int)) (by decide) rfl ?_
  intro pr e s m ag below meth cd s₁ B hml hv
  obtain ⟨rfl, hN, hP, hD, hK, hE⟩ := hv
  have hx := B.exec
  have hb := B.bytes
  have hr := B.returns
  have hts := atoms_spec (ws := wsX1_slide) B.pre
  have hown : s.vm.findClass RX1 = some m.cls := findClass_of_methodNamed B.named
  have hlocks := B.notSynchronized
  have hS : va_S (zA N0) s.heap s.heap [] := va_S.rf
  have hiw : ∀ w ∈ u_ws RX1 TX1 13, w ∈ wsX1_slide := by decide +kernel
  have hl := lv_entry ([.ref h, .int w, .int a, .int b, .int (nI f)]) (n := 8) (Nat.le_of_ble_eq_true rfl)
  rw [lg_entry_eq]
  generalize (lg_sl ([.ref h, .int w, .int a, .int b, .int (nI f)]) ++ List.replicate (8 - (lg_sl ([.ref h, .int w, .int a, .int b, .int (nI f)])).length) Slot.unset).toArray = ls at hl ⊢
  have hl : lv_has ls 8 [(0, .ref h), (1, .int w), (2, .int a), (3, .int b), (4, .int (nI f))] := hl
  have loop : ∀ (n : Nat) (k : Nat), k ≤ f → f + 1 ≤ k + n → ∀ (H : Heap) (locs : List Loc), va_P D vwCl (wM h d cA (0) ((zSl c w.toNatClampNeg a b f z k)) c ++ E) H → va_D (zA N0) (wM h d cA (0) ((zSl c w.toNatClampNeg a b f z k)) c ++ E) → va_S (zA N0) s.heap H locs → ∀ (ls : Array Slot), lv_has ls 8 [(6, .int (nI k)), (5, .int (z.2.2.2.1 w.toNatClampNeg)), (0, .ref h), (1, .int w), (2, .int a), (3, .int b), (4, .int (nI f))] → W pr l e (headSpec wsX1_slide ({ frames := 7, cells := 0, slots := 0, locals := 165 })).room s m ([.ref h, .int w, .int a, .int b, .int (nI f)] : List Value).toArray below meth cd H locs 0 0 (MQ below (va_Qi (fun (rv : Int32) (_ : Unit) => rv = (zSl c w.toNatClampNeg a b f z f).2.2.2.1 w.toNatClampNeg - z.2.2.2.1 w.toNatClampNeg) (fun _ t => zPost D N0 (wM h d cA (0) (zSl c w.toNatClampNeg a b f z f) c ++ E) t) (zA N0)) ([.ref h, .int w, .int a, .int b, .int (nI f)] : List Value).toArray s 0 0 (zA N0)) (F0 m 61 ls []) := by
    intro n
    induction n with
    | zero =>
      intro k hk hn
      omega
    | succ n ih =>
      intro k hk hn H locs hP hD hS ls hl
      refine lv_iload hx hb dX1_slide_61 (lv_at hl 0 rfl) ?_
      refine lv_iload hx hb dX1_slide_63 (lv_at hl 6 rfl) ?_
      refine lv_icmp_ge (tgt := 100) hx hb dX1_slide_65 (by decide) (fun c_65 => ?_) (fun c_65 => ?_)
      · have hkf : f = k := by have := (nI_leI (by omega) (by omega)).mp c_65; omega
        subst hkf
        refine lv_aload_n hx hb dX1_slide_100 rfl (lv_at hl 2 rfl) ?_
        refine va_get (D := D) (ci := 1) (v := .ref (d 3)) (C := RX1) (T := TX1) (N := 13) hx hb hts hiw hown hK hP 0 rfl rfl 9 (by decide) (hts (.fieldLink RX1 29 "TunedWrensModel" "changes" "[I") (by decide +kernel)) (fun _ h9 => h9) rfl dX1_slide_101 ?_
        refine lv_iload_n hx hb dX1_slide_104 rfl (lv_at hl 3 rfl) ?_
        refine va_iald hx hb hK hP 4 0 rfl rfl (zw_in hw) dX1_slide_105 ?_
        refine lv_iload hx hb dX1_slide_106 (lv_at hl 1 rfl) ?_
        refine lv_isub hx hb dX1_slide_108 ?_
        exact W.iret (v := ((((zSl c w.toNatClampNeg a b f z f)).2.2.2.1 w.toNatClampNeg) - (z.2.2.2.1 w.toNatClampNeg))) hx hb hr (fun t ht hW => ⟨⟨_, (), rfl, rfl, ⟨by rw [ht]; exact hP, hD⟩⟩, hS.F ht⟩) hS.2.2 dX1_slide_109
      · have hkf : k < f := by
          rcases Nat.lt_or_ge k f with q | q
          · exact q
          · exact absurd ((nI_leI (by omega) (by omega)).mpr q) c_65
        refine lv_aload_n hx hb dX1_slide_68 rfl (lv_at hl 2 rfl) ?_
        refine lv_iload_n hx hb dX1_slide_69 rfl (lv_at hl 3 rfl) ?_
        refine lv_iload_n hx hb dX1_slide_70 rfl (lv_at hl 4 rfl) ?_
        refine lv_iload hx hb dX1_slide_71 (lv_at hl 6 rfl) ?_
        refine lv_iconst (v := 1) hx hb dX1_slide_73 (by decide) ?_
        refine lv_isub hx hb dX1_slide_74 ?_
        refine lv_iload hx hb dX1_slide_75 (lv_at hl 0 rfl) ?_
        refine lv_isub hx hb dX1_slide_77 ?_
        refine lv_imul hx hb dX1_slide_78 ?_
        refine lv_iload_n hx hb dX1_slide_79 rfl (lv_at hl 5 rfl) ?_
        refine lv_iload hx hb dX1_slide_80 (lv_at hl 0 rfl) ?_
        refine lv_imul hx hb dX1_slide_82 ?_
        refine lv_iadd hx hb dX1_slide_83 ?_
        refine lv_iload hx hb dX1_slide_84 (lv_at hl 6 rfl) ?_
        refine lv_iconst (v := 1) hx hb dX1_slide_86 (by decide) ?_
        refine lv_isub hx hb dX1_slide_87 ?_
        refine lv_idiv hx hb dX1_slide_88 (by rw [show nI f - 1 = nI (f - 1) from pk_sub (b := 1) (by omega)]; exact nI_ne0 (by omega) (by omega)) ?_
        rw [show ((((a * (((nI f) - 1) - (nI k))) + (b * (nI k))) / ((nI f) - 1)) : Int32) = (zPit a b f k) from (zPit_M hpa hpb hf hf2 hkf)]
        refine va_calli (va_runV (As := [.int w, .int (zPit a b f k)]) (rest := []) ⟨hx, hb, hml, hown, hts⟩ (c_X1_sings l D N0 cA cL E h d (0) ((zSl c w.toNatClampNeg a b f z k)) c w (zPit a b f k) hc hw (zPit_ok hpa hpb hf hf2 hkf) (zSl_ok hc hz _ hpa hpb hf hf2 k (by omega))) (cwV 2 hts gX1_slide_X1_sings rfl rfl rfl (by decide +kernel) ⟨Nat.le_of_ble_eq_true rfl, Nat.le_of_ble_eq_true rfl⟩) ⟨zPre.blind, va_recv hK hP (ci := 1) (q0 := 0) rfl rfl, zPre.call hN hP hD hK hE hS⟩ rfl rfl hl.1 rfl (lv_room (Nat.le_of_ble_eq_true rfl)) dX1_slide_89 ⟨Nat.zero_le _, Nat.zero_le _⟩) hS (fun _ _ h9 => h9) (fun _ h9 => h9) (fun r_89 _ t H locs ht hvm h_89 hB hz1 hk1 hS => ?_)
        have h_89 : r_89 = (zOut c w.toNatClampNeg (zPit a b f k) ((zSl c w.toNatClampNeg a b f z k))) := h_89
        subst h_89
        obtain ⟨hP, hD⟩ := hB
        rw [ht] at hP
        have hP : va_P D vwCl (wM h d cA (0) (zSg c w.toNatClampNeg (zPit a b f k) ((zSl c w.toNatClampNeg a b f z k))) c ++ E) H := hP
        have hD : va_D (zA N0) (wM h d cA (0) (zSg c w.toNatClampNeg (zPit a b f k) ((zSl c w.toNatClampNeg a b f z k))) c ++ E) := hD
        refine lv_istore (lv' := [(7, .int (zOut c w.toNatClampNeg (zPit a b f k) ((zSl c w.toNatClampNeg a b f z k)))), (6, .int (nI k)), (5, .int (z.2.2.2.1 w.toNatClampNeg)), (0, .ref h), (1, .int w), (2, .int a), (3, .int b), (4, .int (nI f))]) hx hb dX1_slide_92 hl (by decide) rfl (fun ls hl => ?_)
        refine lv_iinc (v := (nI (k + 1))) (lv' := [(6, .int (nI (k + 1))), (7, .int (zOut c w.toNatClampNeg (zPit a b f k) ((zSl c w.toNatClampNeg a b f z k)))), (5, .int (z.2.2.2.1 w.toNatClampNeg)), (0, .ref h), (1, .int w), (2, .int a), (3, .int b), (4, .int (nI f))]) hx hb dX1_slide_94 hl (k := 1) rfl (z_inc k 1) (by decide) rfl (fun ls hl => ?_)
        refine lv_goto (tgt := 61) hx hb dX1_slide_97 (by decide) ?_
        exact ih (k + 1) (by omega) (by omega) _ _ hP hD hS ls (lv_sub hl [0, 2, 3, 4, 5, 6, 7] rfl)
  refine lv_aload_n hx hb dX1_slide_0 rfl (lv_at hl 0 rfl) ?_
  refine lv_iload_n hx hb dX1_slide_1 rfl (lv_at hl 1 rfl) ?_
  refine vp_callSi ((va_runS (As := [.int w]) (rest := [.ref h]) ⟨hx, hb, hml, hown, hts⟩ (c_X1_isWren l w) (va_cwS 1 hts gX1_slide_X1_isWren rfl rfl rfl (by decide +kernel) ⟨Nat.le_of_ble_eq_true rfl, Nat.le_of_ble_eq_true rfl⟩) ⟨zT.blind, zT.call⟩ rfl rfl hl.1 rfl (lv_room (Nat.le_of_ble_eq_true rfl)) dX1_slide_2 ⟨Nat.zero_le _, Nat.zero_le _⟩).run) (fun r_2 h_2 => ?_)
  have h_2 : r_2 = (zb (zw w)) := h_2
  subst h_2
  refine lv_if_ne (tgt := 12) hx hb dX1_slide_5 (by decide) (fun c_5 => ?_) (fun c_5 => ?_)
  · refine lv_iload_n hx hb dX1_slide_12 rfl (lv_at hl 2 rfl) ?_
    refine vp_callSi ((va_runS (As := [.int a]) (rest := [.ref h]) ⟨hx, hb, hml, hown, hts⟩ (c_X1_isPitch l a) (va_cwS 1 hts gX1_slide_X1_isPitch rfl rfl rfl (by decide +kernel) ⟨Nat.le_of_ble_eq_true rfl, Nat.le_of_ble_eq_true rfl⟩) ⟨zT.blind, zT.call⟩ rfl rfl hl.1 rfl (lv_room (Nat.le_of_ble_eq_true rfl)) dX1_slide_13 ⟨Nat.zero_le _, Nat.zero_le _⟩).run) (fun r_13 h_13 => ?_)
    have h_13 : r_13 = (zb (zp a)) := h_13
    subst h_13
    refine lv_if_eq (tgt := 41) hx hb dX1_slide_16 (by decide) (fun c_16 => ?_) (fun c_16 => ?_)
    · exact absurd hpa (zb_f c_16)
    · refine lv_iload_n hx hb dX1_slide_19 rfl (lv_at hl 3 rfl) ?_
      refine vp_callSi ((va_runS (As := [.int b]) (rest := [.ref h]) ⟨hx, hb, hml, hown, hts⟩ (c_X1_isPitch l b) (va_cwS 1 hts gX1_slide_X1_isPitch rfl rfl rfl (by decide +kernel) ⟨Nat.le_of_ble_eq_true rfl, Nat.le_of_ble_eq_true rfl⟩) ⟨zT.blind, zT.call⟩ rfl rfl hl.1 rfl (lv_room (Nat.le_of_ble_eq_true rfl)) dX1_slide_20 ⟨Nat.zero_le _, Nat.zero_le _⟩).run) (fun r_20 h_20 => ?_)
      have h_20 : r_20 = (zb (zp b)) := h_20
      subst h_20
      refine lv_if_eq (tgt := 41) hx hb dX1_slide_23 (by decide) (fun c_23 => ?_) (fun c_23 => ?_)
      · exact absurd hpb (zb_f c_23)
      · refine lv_iload hx hb dX1_slide_26 (lv_at hl 4 rfl) ?_
        refine lv_iconst (v := 2) hx hb dX1_slide_28 (by decide) ?_
        refine lv_bipush (v := 50) hx hb dX1_slide_29 (by decide) ?_
        refine vp_callSi ((va_runS (As := [.int (nI f), .int 2, .int 50]) (rest := [.ref h]) ⟨hx, hb, hml, hown, hts⟩ (c_X1_in l (nI f) 2 50) (va_cwS 3 hts gX1_slide_X1_in rfl rfl rfl (by decide +kernel) ⟨Nat.le_of_ble_eq_true rfl, Nat.le_of_ble_eq_true rfl⟩) ⟨zT.blind, zT.call⟩ rfl rfl hl.1 rfl (lv_room (Nat.le_of_ble_eq_true rfl)) dX1_slide_31 ⟨Nat.zero_le _, Nat.zero_le _⟩).run) (fun r_31 h_31 => ?_)
        have h_31 : r_31 = (zb (2 ≤ (nI f) ∧ (nI f) ≤ 50)) := h_31
        subst h_31
        refine lv_if_eq (tgt := 41) hx hb dX1_slide_34 (by decide) (fun c_34 => ?_) (fun c_34 => ?_)
        · exact absurd ⟨(nI_leI (a := 2) (by decide) (by omega)).mpr hf, (nI_leI (b := 50) (by omega) (by decide)).mpr hf2⟩ (zb_f c_34)
        · refine lv_iconst (v := 0) hx hb dX1_slide_37 (by decide) ?_
          refine lv_goto (tgt := 42) hx hb dX1_slide_38 (by decide) ?_
          refine va_calli (va_runV (As := [.int 0]) (rest := []) ⟨hx, hb, hml, hown, hts⟩ (c_X1_holds_0 l D N0 cA cL E h d (th) z c) (cwV 1 hts gX1_slide_X1_holds rfl rfl rfl (by decide +kernel) ⟨Nat.le_of_ble_eq_true rfl, Nat.le_of_ble_eq_true rfl⟩) ⟨zPre.blind, va_recv hK hP (ci := 1) (q0 := 0) rfl rfl, zPre.call hN hP hD hK hE hS⟩ rfl rfl hl.1 rfl (lv_room (Nat.le_of_ble_eq_true rfl)) dX1_slide_42 ⟨Nat.zero_le _, Nat.zero_le _⟩) hS (fun _ _ h9 => h9) (fun _ h9 => h9) (fun r_42 _ t H locs ht hvm h_42 hB hz1 hk1 hS => ?_)
          have h_42 : r_42 = 1 := h_42
          subst h_42
          obtain ⟨hP, hD⟩ := hB
          rw [ht] at hP
          have hP : va_P D vwCl (wM h d cA (0) z c ++ E) H := hP
          have hD : va_D (zA N0) (wM h d cA (0) z c ++ E) := hD
          refine lv_if_ne (tgt := 50) hx hb dX1_slide_45 (by decide) (fun _ => ?_) (fun c_45 => absurd c_45 (by decide))
          refine lv_aload_n hx hb dX1_slide_50 rfl (lv_at hl 0 rfl) ?_
          refine va_get (D := D) (ci := 1) (v := .ref (d 3)) (C := RX1) (T := TX1) (N := 13) hx hb hts hiw hown hK hP 0 rfl rfl 9 (by decide) (hts (.fieldLink RX1 29 "TunedWrensModel" "changes" "[I") (by decide +kernel)) (fun _ h9 => h9) rfl dX1_slide_51 ?_
          refine lv_iload_n hx hb dX1_slide_54 rfl (lv_at hl 1 rfl) ?_
          refine va_iald hx hb hK hP 4 0 rfl rfl (zw_in hw) dX1_slide_55 ?_
          refine lv_istore (lv' := [(5, .int (z.2.2.2.1 w.toNatClampNeg)), (0, .ref h), (1, .int w), (2, .int a), (3, .int b), (4, .int (nI f))]) hx hb dX1_slide_56 hl (by decide) rfl (fun ls hl => ?_)
          refine lv_iconst (v := 0) hx hb dX1_slide_58 (by decide) ?_
          refine lv_istore (lv' := [(6, .int 0), (5, .int (z.2.2.2.1 w.toNatClampNeg)), (0, .ref h), (1, .int w), (2, .int a), (3, .int b), (4, .int (nI f))]) hx hb dX1_slide_59 hl (by decide) rfl (fun ls hl => ?_)
          exact loop (f + 1) 0 (Nat.zero_le _) (by omega) _ _ hP hD hS ls (lv_sub hl [0, 1, 2, 3, 4, 5, 6] rfl)
  · exact absurd hw (zb_f c_5)

set_option maxHeartbeats 4000000 in
set_option maxRecDepth 100000 in
theorem c_X1_slide_1 (l : Launch) (D : va_G) (N0 : Nat) (cA cL : ClassId) (E : va_W) (h : Nat) (d : Nat → Nat) (th : Int32) (z : S7) (c : C5) (w : Int32) (a : Int32) (b : Int32) (a3 : Int32) (hw : ¬ zw w) : Met l yX1_slide wsX1_slide ({ frames := 2, cells := 0, slots := 0, locals := 42 }) (va_Pc [.ref h, .int w, .int a, .int b, .int a3] (zPre D N0 cA cL (wM h d cA (th) z c ++ E))) (va_Qi (fun (rv : Int32) (_ : Unit) => rv = 0) (fun _ t => zPost D N0 (wM h d cA (1) z c ++ E) t) (zA N0)) 0 0 (zA N0) := by
  refine Met.ofW (cc := cX1_slide) (maxL := 8) (ret := (some .int)) (by decide) rfl ?_
  intro pr e s m ag below meth cd s₁ B hml hv
  obtain ⟨rfl, hN, hP, hD, hK, hE⟩ := hv
  have hx := B.exec
  have hb := B.bytes
  have hr := B.returns
  have hts := atoms_spec (ws := wsX1_slide) B.pre
  have hown : s.vm.findClass RX1 = some m.cls := findClass_of_methodNamed B.named
  have hlocks := B.notSynchronized
  have hS : va_S (zA N0) s.heap s.heap [] := va_S.rf
  have hiw : ∀ w ∈ u_ws RX1 TX1 13, w ∈ wsX1_slide := by decide +kernel
  have hl := lv_entry ([.ref h, .int w, .int a, .int b, .int a3]) (n := 8) (Nat.le_of_ble_eq_true rfl)
  rw [lg_entry_eq]
  generalize (lg_sl ([.ref h, .int w, .int a, .int b, .int a3]) ++ List.replicate (8 - (lg_sl ([.ref h, .int w, .int a, .int b, .int a3])).length) Slot.unset).toArray = ls at hl ⊢
  have hl : lv_has ls 8 [(0, .ref h), (1, .int w), (2, .int a), (3, .int b), (4, .int a3)] := hl
  refine lv_aload_n hx hb dX1_slide_0 rfl (lv_at hl 0 rfl) ?_
  refine lv_iload_n hx hb dX1_slide_1 rfl (lv_at hl 1 rfl) ?_
  refine vp_callSi ((va_runS (As := [.int w]) (rest := [.ref h]) ⟨hx, hb, hml, hown, hts⟩ (c_X1_isWren l w) (va_cwS 1 hts gX1_slide_X1_isWren rfl rfl rfl (by decide +kernel) ⟨Nat.le_of_ble_eq_true rfl, Nat.le_of_ble_eq_true rfl⟩) ⟨zT.blind, zT.call⟩ rfl rfl hl.1 rfl (lv_room (Nat.le_of_ble_eq_true rfl)) dX1_slide_2 ⟨Nat.zero_le _, Nat.zero_le _⟩).run) (fun r_2 h_2 => ?_)
  have h_2 : r_2 = (zb (zw w)) := h_2
  subst h_2
  refine lv_if_ne (tgt := 12) hx hb dX1_slide_5 (by decide) (fun c_5 => ?_) (fun c_5 => ?_)
  · exact absurd (zb_t c_5) hw
  · refine lv_iconst (v := 1) hx hb dX1_slide_8 (by decide) ?_
    refine lv_goto (tgt := 42) hx hb dX1_slide_9 (by decide) ?_
    refine va_calli (va_runV (As := [.int 1]) (rest := []) ⟨hx, hb, hml, hown, hts⟩ (c_X1_holds_n l D N0 cA cL E h d (th) z c 1 (by decide)) (cwV 1 hts gX1_slide_X1_holds rfl rfl rfl (by decide +kernel) ⟨Nat.le_of_ble_eq_true rfl, Nat.le_of_ble_eq_true rfl⟩) ⟨zPre.blind, va_recv hK hP (ci := 1) (q0 := 0) rfl rfl, zPre.call hN hP hD hK hE hS⟩ rfl rfl hl.1 rfl (lv_room (Nat.le_of_ble_eq_true rfl)) dX1_slide_42 ⟨Nat.zero_le _, Nat.zero_le _⟩) hS (fun _ _ h9 => h9) (fun _ h9 => h9) (fun r_42 _ t H locs ht hvm h_42 hB hz1 hk1 hS => ?_)
    have h_42 : r_42 = 0 := h_42
    subst h_42
    obtain ⟨hP, hD⟩ := hB
    rw [ht] at hP
    have hP : va_P D vwCl (wM h d cA (1) z c ++ E) H := hP
    have hD : va_D (zA N0) (wM h d cA (1) z c ++ E) := hD
    refine lv_if_ne (tgt := 50) hx hb dX1_slide_45 (by decide) (fun c_45 => absurd c_45 (by decide)) (fun _ => ?_)
    refine lv_iconst (v := 0) hx hb dX1_slide_48 (by decide) ?_
    exact W.iret (v := 0) hx hb hr (fun t ht hW => ⟨⟨_, (), rfl, rfl, ⟨by rw [ht]; exact hP, hD⟩⟩, hS.F ht⟩) hS.2.2 dX1_slide_49

set_option maxHeartbeats 4000000 in
set_option maxRecDepth 100000 in
theorem c_X1_slide_2 (l : Launch) (D : va_G) (N0 : Nat) (cA cL : ClassId) (E : va_W) (h : Nat) (d : Nat → Nat) (th : Int32) (z : S7) (c : C5) (w : Int32) (a : Int32) (b : Int32) (a3 : Int32) (hw : zw w) (hn : ¬ (zp a ∧ zp b ∧ (2 ≤ a3 ∧ a3 ≤ 50))) : Met l yX1_slide wsX1_slide ({ frames := 2, cells := 0, slots := 0, locals := 42 }) (va_Pc [.ref h, .int w, .int a, .int b, .int a3] (zPre D N0 cA cL (wM h d cA (th) z c ++ E))) (va_Qi (fun (rv : Int32) (_ : Unit) => rv = 0) (fun _ t => zPost D N0 (wM h d cA (2) z c ++ E) t) (zA N0)) 0 0 (zA N0) := by
  refine Met.ofW (cc := cX1_slide) (maxL := 8) (ret := (some .int)) (by decide) rfl ?_
  intro pr e s m ag below meth cd s₁ B hml hv
  obtain ⟨rfl, hN, hP, hD, hK, hE⟩ := hv
  have hx := B.exec
  have hb := B.bytes
  have hr := B.returns
  have hts := atoms_spec (ws := wsX1_slide) B.pre
  have hown : s.vm.findClass RX1 = some m.cls := findClass_of_methodNamed B.named
  have hlocks := B.notSynchronized
  have hS : va_S (zA N0) s.heap s.heap [] := va_S.rf
  have hiw : ∀ w ∈ u_ws RX1 TX1 13, w ∈ wsX1_slide := by decide +kernel
  have hl := lv_entry ([.ref h, .int w, .int a, .int b, .int a3]) (n := 8) (Nat.le_of_ble_eq_true rfl)
  rw [lg_entry_eq]
  generalize (lg_sl ([.ref h, .int w, .int a, .int b, .int a3]) ++ List.replicate (8 - (lg_sl ([.ref h, .int w, .int a, .int b, .int a3])).length) Slot.unset).toArray = ls at hl ⊢
  have hl : lv_has ls 8 [(0, .ref h), (1, .int w), (2, .int a), (3, .int b), (4, .int a3)] := hl
  refine lv_aload_n hx hb dX1_slide_0 rfl (lv_at hl 0 rfl) ?_
  refine lv_iload_n hx hb dX1_slide_1 rfl (lv_at hl 1 rfl) ?_
  refine vp_callSi ((va_runS (As := [.int w]) (rest := [.ref h]) ⟨hx, hb, hml, hown, hts⟩ (c_X1_isWren l w) (va_cwS 1 hts gX1_slide_X1_isWren rfl rfl rfl (by decide +kernel) ⟨Nat.le_of_ble_eq_true rfl, Nat.le_of_ble_eq_true rfl⟩) ⟨zT.blind, zT.call⟩ rfl rfl hl.1 rfl (lv_room (Nat.le_of_ble_eq_true rfl)) dX1_slide_2 ⟨Nat.zero_le _, Nat.zero_le _⟩).run) (fun r_2 h_2 => ?_)
  have h_2 : r_2 = (zb (zw w)) := h_2
  subst h_2
  refine lv_if_ne (tgt := 12) hx hb dX1_slide_5 (by decide) (fun c_5 => ?_) (fun c_5 => ?_)
  · refine lv_iload_n hx hb dX1_slide_12 rfl (lv_at hl 2 rfl) ?_
    refine vp_callSi ((va_runS (As := [.int a]) (rest := [.ref h]) ⟨hx, hb, hml, hown, hts⟩ (c_X1_isPitch l a) (va_cwS 1 hts gX1_slide_X1_isPitch rfl rfl rfl (by decide +kernel) ⟨Nat.le_of_ble_eq_true rfl, Nat.le_of_ble_eq_true rfl⟩) ⟨zT.blind, zT.call⟩ rfl rfl hl.1 rfl (lv_room (Nat.le_of_ble_eq_true rfl)) dX1_slide_13 ⟨Nat.zero_le _, Nat.zero_le _⟩).run) (fun r_13 h_13 => ?_)
    have h_13 : r_13 = (zb (zp a)) := h_13
    subst h_13
    refine lv_if_eq (tgt := 41) hx hb dX1_slide_16 (by decide) (fun c_16 => ?_) (fun c_16 => ?_)
    · refine lv_iconst (v := 2) hx hb dX1_slide_41 (by decide) ?_
      refine va_calli (va_runV (As := [.int 2]) (rest := []) ⟨hx, hb, hml, hown, hts⟩ (c_X1_holds_n l D N0 cA cL E h d (th) z c 2 (by decide)) (cwV 1 hts gX1_slide_X1_holds rfl rfl rfl (by decide +kernel) ⟨Nat.le_of_ble_eq_true rfl, Nat.le_of_ble_eq_true rfl⟩) ⟨zPre.blind, va_recv hK hP (ci := 1) (q0 := 0) rfl rfl, zPre.call hN hP hD hK hE hS⟩ rfl rfl hl.1 rfl (lv_room (Nat.le_of_ble_eq_true rfl)) dX1_slide_42 ⟨Nat.zero_le _, Nat.zero_le _⟩) hS (fun _ _ h9 => h9) (fun _ h9 => h9) (fun r_42 _ t H locs ht hvm h_42 hB hz1 hk1 hS => ?_)
      have h_42 : r_42 = 0 := h_42
      subst h_42
      obtain ⟨hP, hD⟩ := hB
      rw [ht] at hP
      have hP : va_P D vwCl (wM h d cA (2) z c ++ E) H := hP
      have hD : va_D (zA N0) (wM h d cA (2) z c ++ E) := hD
      refine lv_if_ne (tgt := 50) hx hb dX1_slide_45 (by decide) (fun c_45 => absurd c_45 (by decide)) (fun _ => ?_)
      refine lv_iconst (v := 0) hx hb dX1_slide_48 (by decide) ?_
      exact W.iret (v := 0) hx hb hr (fun t ht hW => ⟨⟨_, (), rfl, rfl, ⟨by rw [ht]; exact hP, hD⟩⟩, hS.F ht⟩) hS.2.2 dX1_slide_49
    · refine lv_iload_n hx hb dX1_slide_19 rfl (lv_at hl 3 rfl) ?_
      refine vp_callSi ((va_runS (As := [.int b]) (rest := [.ref h]) ⟨hx, hb, hml, hown, hts⟩ (c_X1_isPitch l b) (va_cwS 1 hts gX1_slide_X1_isPitch rfl rfl rfl (by decide +kernel) ⟨Nat.le_of_ble_eq_true rfl, Nat.le_of_ble_eq_true rfl⟩) ⟨zT.blind, zT.call⟩ rfl rfl hl.1 rfl (lv_room (Nat.le_of_ble_eq_true rfl)) dX1_slide_20 ⟨Nat.zero_le _, Nat.zero_le _⟩).run) (fun r_20 h_20 => ?_)
      have h_20 : r_20 = (zb (zp b)) := h_20
      subst h_20
      refine lv_if_eq (tgt := 41) hx hb dX1_slide_23 (by decide) (fun c_23 => ?_) (fun c_23 => ?_)
      · refine lv_iconst (v := 2) hx hb dX1_slide_41 (by decide) ?_
        refine va_calli (va_runV (As := [.int 2]) (rest := []) ⟨hx, hb, hml, hown, hts⟩ (c_X1_holds_n l D N0 cA cL E h d (th) z c 2 (by decide)) (cwV 1 hts gX1_slide_X1_holds rfl rfl rfl (by decide +kernel) ⟨Nat.le_of_ble_eq_true rfl, Nat.le_of_ble_eq_true rfl⟩) ⟨zPre.blind, va_recv hK hP (ci := 1) (q0 := 0) rfl rfl, zPre.call hN hP hD hK hE hS⟩ rfl rfl hl.1 rfl (lv_room (Nat.le_of_ble_eq_true rfl)) dX1_slide_42 ⟨Nat.zero_le _, Nat.zero_le _⟩) hS (fun _ _ h9 => h9) (fun _ h9 => h9) (fun r_42 _ t H locs ht hvm h_42 hB hz1 hk1 hS => ?_)
        have h_42 : r_42 = 0 := h_42
        subst h_42
        obtain ⟨hP, hD⟩ := hB
        rw [ht] at hP
        have hP : va_P D vwCl (wM h d cA (2) z c ++ E) H := hP
        have hD : va_D (zA N0) (wM h d cA (2) z c ++ E) := hD
        refine lv_if_ne (tgt := 50) hx hb dX1_slide_45 (by decide) (fun c_45 => absurd c_45 (by decide)) (fun _ => ?_)
        refine lv_iconst (v := 0) hx hb dX1_slide_48 (by decide) ?_
        exact W.iret (v := 0) hx hb hr (fun t ht hW => ⟨⟨_, (), rfl, rfl, ⟨by rw [ht]; exact hP, hD⟩⟩, hS.F ht⟩) hS.2.2 dX1_slide_49
      · refine lv_iload hx hb dX1_slide_26 (lv_at hl 4 rfl) ?_
        refine lv_iconst (v := 2) hx hb dX1_slide_28 (by decide) ?_
        refine lv_bipush (v := 50) hx hb dX1_slide_29 (by decide) ?_
        refine vp_callSi ((va_runS (As := [.int a3, .int 2, .int 50]) (rest := [.ref h]) ⟨hx, hb, hml, hown, hts⟩ (c_X1_in l a3 2 50) (va_cwS 3 hts gX1_slide_X1_in rfl rfl rfl (by decide +kernel) ⟨Nat.le_of_ble_eq_true rfl, Nat.le_of_ble_eq_true rfl⟩) ⟨zT.blind, zT.call⟩ rfl rfl hl.1 rfl (lv_room (Nat.le_of_ble_eq_true rfl)) dX1_slide_31 ⟨Nat.zero_le _, Nat.zero_le _⟩).run) (fun r_31 h_31 => ?_)
        have h_31 : r_31 = (zb (2 ≤ a3 ∧ a3 ≤ 50)) := h_31
        subst h_31
        refine lv_if_eq (tgt := 41) hx hb dX1_slide_34 (by decide) (fun c_34 => ?_) (fun c_34 => ?_)
        · refine lv_iconst (v := 2) hx hb dX1_slide_41 (by decide) ?_
          refine va_calli (va_runV (As := [.int 2]) (rest := []) ⟨hx, hb, hml, hown, hts⟩ (c_X1_holds_n l D N0 cA cL E h d (th) z c 2 (by decide)) (cwV 1 hts gX1_slide_X1_holds rfl rfl rfl (by decide +kernel) ⟨Nat.le_of_ble_eq_true rfl, Nat.le_of_ble_eq_true rfl⟩) ⟨zPre.blind, va_recv hK hP (ci := 1) (q0 := 0) rfl rfl, zPre.call hN hP hD hK hE hS⟩ rfl rfl hl.1 rfl (lv_room (Nat.le_of_ble_eq_true rfl)) dX1_slide_42 ⟨Nat.zero_le _, Nat.zero_le _⟩) hS (fun _ _ h9 => h9) (fun _ h9 => h9) (fun r_42 _ t H locs ht hvm h_42 hB hz1 hk1 hS => ?_)
          have h_42 : r_42 = 0 := h_42
          subst h_42
          obtain ⟨hP, hD⟩ := hB
          rw [ht] at hP
          have hP : va_P D vwCl (wM h d cA (2) z c ++ E) H := hP
          have hD : va_D (zA N0) (wM h d cA (2) z c ++ E) := hD
          refine lv_if_ne (tgt := 50) hx hb dX1_slide_45 (by decide) (fun c_45 => absurd c_45 (by decide)) (fun _ => ?_)
          refine lv_iconst (v := 0) hx hb dX1_slide_48 (by decide) ?_
          exact W.iret (v := 0) hx hb hr (fun t ht hW => ⟨⟨_, (), rfl, rfl, ⟨by rw [ht]; exact hP, hD⟩⟩, hS.F ht⟩) hS.2.2 dX1_slide_49
        · exact absurd ⟨zb_t c_16, zb_t c_23, zb_t c_34⟩ hn
  · exact absurd hw (zb_f c_5)

set_option maxHeartbeats 4000000 in
set_option maxRecDepth 100000 in
theorem c_X1_rungs (l : Launch) (D : va_G) (N0 : Nat) (cA cL : ClassId) (E : va_W) (h : Nat) (d : Nat → Nat) (th : Int32) (z : S7) (c : C5) (hc : okC c) : Met l yX1_rungs wsX1_rungs ({ frames := 4, cells := 0, slots := 0, locals := 87 }) (va_Pc [.ref h] (zPre D N0 cA cL (wM h d cA (th) z c ++ E))) (va_Qi (fun (rv : Int32) (_ : Unit) => rv = zRc c) (fun _ t => zPost D N0 (wM h d cA (0) z c ++ E) t) (zA N0)) 0 0 (zA N0) := by
  refine Met.ofW (cc := cX1_rungs) (maxL := 3) (ret := (some .int)) (by decide) rfl ?_
  intro pr e s m ag below meth cd s₁ B hml hv
  obtain ⟨rfl, hN, hP, hD, hK, hE⟩ := hv
  have hx := B.exec
  have hb := B.bytes
  have hr := B.returns
  have hts := atoms_spec (ws := wsX1_rungs) B.pre
  have hown : s.vm.findClass RX1 = some m.cls := findClass_of_methodNamed B.named
  have hlocks := B.notSynchronized
  have hS : va_S (zA N0) s.heap s.heap [] := va_S.rf
  have hiw : ∀ w ∈ u_ws RX1 TX1 13, w ∈ wsX1_rungs := by decide +kernel
  have hl := lv_entry ([.ref h]) (n := 3) (Nat.le_of_ble_eq_true rfl)
  rw [lg_entry_eq]
  generalize (lg_sl ([.ref h]) ++ List.replicate (3 - (lg_sl ([.ref h])).length) Slot.unset).toArray = ls at hl ⊢
  have hl : lv_has ls 3 [(0, .ref h)] := hl
  have loop : ∀ (n : Nat) (k : Nat), k ≤ 121 → 122 ≤ k + n → ∀ (H : Heap) (locs : List Loc), va_P D vwCl (wM h d cA (0) z c ++ E) H → va_D (zA N0) (wM h d cA (0) z c ++ E) → va_S (zA N0) s.heap H locs → ∀ (ls : Array Slot), lv_has ls 3 [(1, .int (zRcn c k)), (2, .int (nI (100 * k))), (0, .ref h)] → W pr l e (headSpec wsX1_rungs ({ frames := 4, cells := 0, slots := 0, locals := 87 })).room s m ([.ref h] : List Value).toArray below meth cd H locs 0 0 (MQ below (va_Qi (fun (rv : Int32) (_ : Unit) => rv = zRc c) (fun _ t => zPost D N0 (wM h d cA (0) z c ++ E) t) (zA N0)) ([.ref h] : List Value).toArray s 0 0 (zA N0)) (F0 m 9 ls []) := by
    intro n
    induction n with
    | zero =>
      intro k hk hn
      omega
    | succ n ih =>
      intro k hk hn H locs hP hD hS ls hl
      refine lv_iload_n hx hb dX1_rungs_9 rfl (lv_at hl 1 rfl) ?_
      refine lv_sipush (v := 12000) hx hb dX1_rungs_10 (by decide) ?_
      refine lv_icmp_gt (tgt := 38) hx hb dX1_rungs_13 (by decide) (fun c_13 => ?_) (fun c_13 => ?_)
      · have hk1 : k = 121 := by have := (nI_ltI (a := 12000) (by decide) (by omega)).mp c_13; omega
        subst hk1
        refine lv_iload_n hx hb dX1_rungs_38 rfl (lv_at hl 0 rfl) ?_
        exact W.iret (v := (zRcn c 121)) hx hb hr (fun t ht hW => ⟨⟨_, (), rfl, rfl, ⟨by rw [ht]; exact hP, hD⟩⟩, hS.F ht⟩) hS.2.2 dX1_rungs_39
      · have hk1 : k < 121 := by
          rcases Nat.lt_or_ge k 121 with q | q
          · exact q
          · exact absurd ((nI_ltI (a := 12000) (by decide) (by omega)).mpr (by omega)) c_13
        refine lv_iload_n hx hb dX1_rungs_16 rfl (lv_at hl 0 rfl) ?_
        refine lv_aload_n hx hb dX1_rungs_17 rfl (lv_at hl 2 rfl) ?_
        refine lv_iload_n hx hb dX1_rungs_18 rfl (lv_at hl 1 rfl) ?_
        refine vp_callSi ((va_runV (As := [.int (nI (100 * k))]) (rest := [.int (zRcn c k)]) ⟨hx, hb, hml, hown, hts⟩ (c_X1_step l D N0 cA cL E h d (0) z c (nI (100 * k)) hc) (cwV 1 hts gX1_rungs_X1_step rfl rfl rfl (by decide +kernel) ⟨Nat.le_of_ble_eq_true rfl, Nat.le_of_ble_eq_true rfl⟩) ⟨zPre.blind, va_recv hK hP (ci := 1) (q0 := 0) rfl rfl, zPre.call hN hP hD hK hE hS⟩ rfl rfl hl.1 rfl (lv_room (Nat.le_of_ble_eq_true rfl)) dX1_rungs_19 ⟨Nat.zero_le _, Nat.zero_le _⟩).run) (fun r_19 h_19 => ?_)
        have h_19 : r_19 = (zStep c (nI (100 * k))) := h_19
        subst h_19
        refine lv_if_lt (tgt := 29) hx hb dX1_rungs_22 (by decide) (fun c_22 => ?_) (fun c_22 => ?_)
        · refine lv_iconst (v := 0) hx hb dX1_rungs_29 (by decide) ?_
          refine lv_iadd hx hb dX1_rungs_30 ?_
          refine lv_istore_n (lv' := [(1, .int ((zRcn c k) + 0)), (2, .int (nI (100 * k))), (0, .ref h)]) hx hb dX1_rungs_31 rfl hl (by decide) rfl (fun ls hl => ?_)
          refine lv_iinc (v := (nI (100 * (k + 1)))) (lv' := [(2, .int (nI (100 * (k + 1)))), (1, .int ((zRcn c k) + 0)), (0, .ref h)]) hx hb dX1_rungs_32 hl (k := 1) rfl (z_inc (100 * k) 100) (by decide) rfl (fun ls hl => ?_)
          refine lv_goto (tgt := 9) hx hb dX1_rungs_35 (by decide) ?_
          have hl : lv_has ls 3 [(2, .int (nI (100 * (k + 1)))), (1, .int (zRcn c (k + 1))), (0, .ref h)] := by
            rw [show ((zRcn c (k + 1)) : Int32) = ((zRcn c k) + 0) from (by rw [zRcn_0 c_22, Int32.add_zero])]
            exact hl
          exact ih (k + 1) (by omega) (by omega) _ _ hP hD hS ls (lv_sub hl [1, 0, 2] rfl)
        · refine lv_iconst (v := 1) hx hb dX1_rungs_25 (by decide) ?_
          refine lv_goto (tgt := 30) hx hb dX1_rungs_26 (by decide) ?_
          refine lv_iadd hx hb dX1_rungs_30 ?_
          refine lv_istore_n (lv' := [(1, .int ((zRcn c k) + 1)), (2, .int (nI (100 * k))), (0, .ref h)]) hx hb dX1_rungs_31 rfl hl (by decide) rfl (fun ls hl => ?_)
          refine lv_iinc (v := (nI (100 * (k + 1)))) (lv' := [(2, .int (nI (100 * (k + 1)))), (1, .int ((zRcn c k) + 1)), (0, .ref h)]) hx hb dX1_rungs_32 hl (k := 1) rfl (z_inc (100 * k) 100) (by decide) rfl (fun ls hl => ?_)
          refine lv_goto (tgt := 9) hx hb dX1_rungs_35 (by decide) ?_
          have hl : lv_has ls 3 [(2, .int (nI (100 * (k + 1)))), (1, .int (zRcn c (k + 1))), (0, .ref h)] := by
            rw [show ((zRcn c (k + 1)) : Int32) = ((zRcn c k) + 1) from (zRcn_1 c_22)]
            exact hl
          exact ih (k + 1) (by omega) (by omega) _ _ hP hD hS ls (lv_sub hl [1, 0, 2] rfl)
  refine lv_aload_n hx hb dX1_rungs_0 rfl (lv_at hl 0 rfl) ?_
  refine lv_iconst (v := 0) hx hb dX1_rungs_1 (by decide) ?_
  refine va_put (D := D) (ci := 1) (v := .int 0) (ty := .int) (C := RX1) (T := TX1) (N := 13) hx hb hts hiw tyX1 tyX1_ok nmX1 hown hK hP hD hS 0 rfl rfl 0 (by decide) (hts (.fieldLink RX1 41 "TunedWrensModel" "thrown" "I") (by decide +kernel)) (fun _ h9 => h9) rfl (by decide +kernel) rfl rfl (Nat.le_of_ble_eq_true rfl) dX1_rungs_2 (fun H locs hP hD hS => ?_)
  have hP : va_P D vwCl (wM h d cA (0) z c ++ E) H := hP
  have hD : va_D (zA N0) (wM h d cA (0) z c ++ E) := hD
  refine lv_iconst (v := 0) hx hb dX1_rungs_5 (by decide) ?_
  refine lv_istore_n (lv' := [(1, .int 0), (0, .ref h)]) hx hb dX1_rungs_6 rfl hl (by decide) rfl (fun ls hl => ?_)
  refine lv_iconst (v := 0) hx hb dX1_rungs_7 (by decide) ?_
  refine lv_istore_n (lv' := [(2, .int 0), (1, .int 0), (0, .ref h)]) hx hb dX1_rungs_8 rfl hl (by decide) rfl (fun ls hl => ?_)
  exact loop 122 0 (by decide) (by decide) _ _ hP hD hS ls (lv_sub hl [1, 0, 2] rfl)

set_option maxHeartbeats 4000000 in
set_option maxRecDepth 100000 in
theorem c_X1_rung_v (l : Launch) (D : va_G) (N0 : Nat) (cA cL : ClassId) (E : va_W) (h : Nat) (d : Nat → Nat) (th : Int32) (z : S7) (c : C5) (num : Int32) (hc : okC c) (hv : ¬ zRg c num < 0) : Met l yX1_rung wsX1_rung ({ frames := 4, cells := 0, slots := 0, locals := 87 }) (va_Pc [.ref h, .int num] (zPre D N0 cA cL (wM h d cA (th) z c ++ E))) (va_Qi (fun (rv : Int32) (_ : Unit) => rv = zRg c num) (fun _ t => zPost D N0 (wM h d cA (0) z c ++ E) t) (zA N0)) 0 0 (zA N0) := by
  refine Met.ofW (cc := cX1_rung) (maxL := 5) (ret := (some .int)) (by decide) rfl ?_
  intro pr e s m ag below meth cd s₁ B hml hv
  obtain ⟨rfl, hN, hP, hD, hK, hE⟩ := hv
  have hx := B.exec
  have hb := B.bytes
  have hr := B.returns
  have hts := atoms_spec (ws := wsX1_rung) B.pre
  have hown : s.vm.findClass RX1 = some m.cls := findClass_of_methodNamed B.named
  have hlocks := B.notSynchronized
  have hS : va_S (zA N0) s.heap s.heap [] := va_S.rf
  have hl := lv_entry ([.ref h, .int num]) (n := 5) (Nat.le_of_ble_eq_true rfl)
  rw [lg_entry_eq]
  generalize (lg_sl ([.ref h, .int num]) ++ List.replicate (5 - (lg_sl ([.ref h, .int num])).length) Slot.unset).toArray = ls at hl ⊢
  have hl : lv_has ls 5 [(0, .ref h), (1, .int num)] := hl
  have loop : ∀ (n : Nat) (k : Nat), k ≤ 121 → 122 ≤ k + n → ∀ (H : Heap) (locs : List Loc), va_P D vwCl (wM h d cA (th) z c ++ E) H → va_D (zA N0) (wM h d cA (th) z c ++ E) → va_S (zA N0) s.heap H locs → ∀ (ls : Array Slot), lv_has ls 5 [(2, .int (num - zRcn c k)), (3, .int (zRgn c num k)), (4, .int (nI (100 * k))), (0, .ref h), (1, .int num)] → W pr l e (headSpec wsX1_rung ({ frames := 4, cells := 0, slots := 0, locals := 87 })).room s m ([.ref h, .int num] : List Value).toArray below meth cd H locs 0 0 (MQ below (va_Qi (fun (rv : Int32) (_ : Unit) => rv = zRg c num) (fun _ t => zPost D N0 (wM h d cA (0) z c ++ E) t) (zA N0)) ([.ref h, .int num] : List Value).toArray s 0 0 (zA N0)) (F0 m 7 ls []) := by
    intro n
    induction n with
    | zero =>
      intro k hk hn
      omega
    | succ n ih =>
      intro k hk hn H locs hP hD hS ls hl
      refine lv_iload hx hb dX1_rung_7 (lv_at hl 2 rfl) ?_
      refine lv_sipush (v := 12000) hx hb dX1_rung_9 (by decide) ?_
      refine lv_icmp_gt (tgt := 44) hx hb dX1_rung_12 (by decide) (fun c_12 => ?_) (fun c_12 => ?_)
      · have hk1 : k = 121 := by have := (nI_ltI (a := 12000) (by decide) (by omega)).mp c_12; omega
        subst hk1
        refine lv_aload_n hx hb dX1_rung_44 rfl (lv_at hl 3 rfl) ?_
        refine lv_iload_n hx hb dX1_rung_45 rfl (lv_at hl 1 rfl) ?_
        refine lv_if_lt (tgt := 53) hx hb dX1_rung_46 (by decide) (fun c_46 => ?_) (fun c_46 => ?_)
        · exact absurd (show zRg c num < 0 from c_46) hv
        · refine lv_iconst (v := 0) hx hb dX1_rung_49 (by decide) ?_
          refine lv_goto (tgt := 54) hx hb dX1_rung_50 (by decide) ?_
          refine va_calli (va_runV (As := [.int 0]) (rest := []) ⟨hx, hb, hml, hown, hts⟩ (c_X1_holds_0 l D N0 cA cL E h d (th) z c) (cwV 1 hts gX1_rung_X1_holds rfl rfl rfl (by decide +kernel) ⟨Nat.le_of_ble_eq_true rfl, Nat.le_of_ble_eq_true rfl⟩) ⟨zPre.blind, va_recv hK hP (ci := 1) (q0 := 0) rfl rfl, zPre.call hN hP hD hK hE hS⟩ rfl rfl hl.1 rfl (lv_room (Nat.le_of_ble_eq_true rfl)) dX1_rung_54 ⟨Nat.zero_le _, Nat.zero_le _⟩) hS (fun _ _ h9 => h9) (fun _ h9 => h9) (fun r_54 _ t H locs ht hvm h_54 hB hz1 hk1 hS => ?_)
          have h_54 : r_54 = 1 := h_54
          subst h_54
          obtain ⟨hP, hD⟩ := hB
          rw [ht] at hP
          have hP : va_P D vwCl (wM h d cA (0) z c ++ E) H := hP
          have hD : va_D (zA N0) (wM h d cA (0) z c ++ E) := hD
          refine lv_if_eq (tgt := 64) hx hb dX1_rung_57 (by decide) (fun c_57 => absurd c_57 (by decide)) (fun _ => ?_)
          refine lv_iload_n hx hb dX1_rung_60 rfl (lv_at hl 1 rfl) ?_
          refine lv_goto (tgt := 65) hx hb dX1_rung_61 (by decide) ?_
          exact W.iret (v := (zRgn c num 121)) hx hb hr (fun t ht hW => ⟨⟨_, (), rfl, rfl, ⟨by rw [ht]; exact hP, hD⟩⟩, hS.F ht⟩) hS.2.2 dX1_rung_65
      · have hk1 : k < 121 := by
          rcases Nat.lt_or_ge k 121 with q | q
          · exact q
          · exact absurd ((nI_ltI (a := 12000) (by decide) (by omega)).mpr (by omega)) c_12
        refine lv_aload_n hx hb dX1_rung_15 rfl (lv_at hl 3 rfl) ?_
        refine lv_iload hx hb dX1_rung_16 (lv_at hl 2 rfl) ?_
        refine vp_callSi ((va_runV (As := [.int (nI (100 * k))]) (rest := []) ⟨hx, hb, hml, hown, hts⟩ (c_X1_step l D N0 cA cL E h d (th) z c (nI (100 * k)) hc) (cwV 1 hts gX1_rung_X1_step rfl rfl rfl (by decide +kernel) ⟨Nat.le_of_ble_eq_true rfl, Nat.le_of_ble_eq_true rfl⟩) ⟨zPre.blind, va_recv hK hP (ci := 1) (q0 := 0) rfl rfl, zPre.call hN hP hD hK hE hS⟩ rfl rfl hl.1 rfl (lv_room (Nat.le_of_ble_eq_true rfl)) dX1_rung_18 ⟨Nat.zero_le _, Nat.zero_le _⟩).run) (fun r_18 h_18 => ?_)
        have h_18 : r_18 = (zStep c (nI (100 * k))) := h_18
        subst h_18
        refine lv_if_lt (tgt := 38) hx hb dX1_rung_21 (by decide) (fun c_21 => ?_) (fun c_21 => ?_)
        · refine lv_iinc (v := (nI (100 * (k + 1)))) (lv' := [(4, .int (nI (100 * (k + 1)))), (2, .int (num - zRcn c k)), (3, .int (zRgn c num k)), (0, .ref h), (1, .int num)]) hx hb dX1_rung_38 hl (k := 2) rfl (z_inc (100 * k) 100) (by decide) rfl (fun ls hl => ?_)
          refine lv_goto (tgt := 7) hx hb dX1_rung_41 (by decide) ?_
          have hl : lv_has ls 5 [(4, .int (nI (100 * (k + 1)))), (2, .int (num - zRcn c (k + 1))), (3, .int (zRgn c num (k + 1))), (0, .ref h), (1, .int num)] := by
            rw [show ((num - zRcn c (k + 1)) : Int32) = (num - zRcn c k) from (by rw [zRcn_0 c_21]), show ((zRgn c num (k + 1)) : Int32) = (zRgn c num k) from (zRgn_s (fun q => q.1 c_21))]
            exact hl
          exact ih (k + 1) (by omega) (by omega) _ _ hP hD hS ls (lv_sub hl [1, 2, 0, 3, 4] rfl)
        · refine lv_iload_n hx hb dX1_rung_24 rfl (lv_at hl 0 rfl) ?_
          refine lv_if_ne (tgt := 33) hx hb dX1_rung_25 (by decide) (fun c_25 => ?_) (fun c_25 => ?_)
          · refine lv_iload_n hx hb dX1_rung_33 rfl (lv_at hl 1 rfl) ?_
            refine lv_istore_n (lv' := [(3, .int (zRgn c num k)), (2, .int (num - zRcn c k)), (4, .int (nI (100 * k))), (0, .ref h), (1, .int num)]) hx hb dX1_rung_34 rfl hl (by decide) rfl (fun ls hl => ?_)
            refine lv_iinc (v := (num - zRcn c k + Int32.ofInt (-1))) (lv' := [(2, .int (num - zRcn c k + Int32.ofInt (-1))), (3, .int (zRgn c num k)), (4, .int (nI (100 * k))), (0, .ref h), (1, .int num)]) hx hb dX1_rung_35 hl (k := 1) rfl rfl (by decide) rfl (fun ls hl => ?_)
            refine lv_iinc (v := (nI (100 * (k + 1)))) (lv' := [(4, .int (nI (100 * (k + 1)))), (2, .int (num - zRcn c k + Int32.ofInt (-1))), (3, .int (zRgn c num k)), (0, .ref h), (1, .int num)]) hx hb dX1_rung_38 hl (k := 2) rfl (z_inc (100 * k) 100) (by decide) rfl (fun ls hl => ?_)
            refine lv_goto (tgt := 7) hx hb dX1_rung_41 (by decide) ?_
            have hl : lv_has ls 5 [(4, .int (nI (100 * (k + 1)))), (2, .int (num - zRcn c (k + 1))), (3, .int (zRgn c num (k + 1))), (0, .ref h), (1, .int num)] := by
              rw [show ((num - zRcn c (k + 1)) : Int32) = (num - zRcn c k + Int32.ofInt (-1)) from (by rw [zRcn_1 c_21, z_sub1]), show ((zRgn c num (k + 1)) : Int32) = (zRgn c num k) from (zRgn_s (fun q => z_subn c_25 q.2))]
              exact hl
            exact ih (k + 1) (by omega) (by omega) _ _ hP hD hS ls (lv_sub hl [1, 2, 0, 3, 4] rfl)
          · refine lv_iload hx hb dX1_rung_28 (lv_at hl 2 rfl) ?_
            refine lv_goto (tgt := 34) hx hb dX1_rung_30 (by decide) ?_
            refine lv_istore_n (lv' := [(3, .int (nI (100 * k))), (2, .int (num - zRcn c k)), (4, .int (nI (100 * k))), (0, .ref h), (1, .int num)]) hx hb dX1_rung_34 rfl hl (by decide) rfl (fun ls hl => ?_)
            refine lv_iinc (v := (num - zRcn c k + Int32.ofInt (-1))) (lv' := [(2, .int (num - zRcn c k + Int32.ofInt (-1))), (3, .int (nI (100 * k))), (4, .int (nI (100 * k))), (0, .ref h), (1, .int num)]) hx hb dX1_rung_35 hl (k := 1) rfl rfl (by decide) rfl (fun ls hl => ?_)
            refine lv_iinc (v := (nI (100 * (k + 1)))) (lv' := [(4, .int (nI (100 * (k + 1)))), (2, .int (num - zRcn c k + Int32.ofInt (-1))), (3, .int (nI (100 * k))), (0, .ref h), (1, .int num)]) hx hb dX1_rung_38 hl (k := 2) rfl (z_inc (100 * k) 100) (by decide) rfl (fun ls hl => ?_)
            refine lv_goto (tgt := 7) hx hb dX1_rung_41 (by decide) ?_
            have hl : lv_has ls 5 [(4, .int (nI (100 * (k + 1)))), (2, .int (num - zRcn c (k + 1))), (3, .int (zRgn c num (k + 1))), (0, .ref h), (1, .int num)] := by
              rw [show ((num - zRcn c (k + 1)) : Int32) = (num - zRcn c k + Int32.ofInt (-1)) from (by rw [zRcn_1 c_21, z_sub1]), show ((zRgn c num (k + 1)) : Int32) = (nI (100 * k)) from (zRgn_1 ⟨c_21, z_sub0 c_25⟩)]
              exact hl
            exact ih (k + 1) (by omega) (by omega) _ _ hP hD hS ls (lv_sub hl [1, 2, 0, 3, 4] rfl)
  refine lv_iload_n hx hb dX1_rung_0 rfl (lv_at hl 1 rfl) ?_
  refine lv_istore_n (lv' := [(2, .int num), (0, .ref h), (1, .int num)]) hx hb dX1_rung_1 rfl hl (by decide) rfl (fun ls hl => ?_)
  refine lv_iconst (v := (-1)) hx hb dX1_rung_2 (by decide) ?_
  refine lv_istore_n (lv' := [(3, .int (-1)), (2, .int num), (0, .ref h), (1, .int num)]) hx hb dX1_rung_3 rfl hl (by decide) rfl (fun ls hl => ?_)
  refine lv_iconst (v := 0) hx hb dX1_rung_4 (by decide) ?_
  refine lv_istore (lv' := [(4, .int 0), (3, .int (-1)), (2, .int num), (0, .ref h), (1, .int num)]) hx hb dX1_rung_5 hl (by decide) rfl (fun ls hl => ?_)
  have hl : lv_has ls 5 [(4, .int 0), (3, .int (-1)), (2, .int (num - zRcn c 0)), (0, .ref h), (1, .int num)] := by
    rw [show ((num - zRcn c 0) : Int32) = num from (Int32.sub_zero num)]
    exact hl
  exact loop 122 0 (by decide) (by decide) _ _ hP hD hS ls (lv_sub hl [2, 1, 0, 3, 4] rfl)

set_option maxHeartbeats 4000000 in
set_option maxRecDepth 100000 in
theorem c_X1_rung_1 (l : Launch) (D : va_G) (N0 : Nat) (cA cL : ClassId) (E : va_W) (h : Nat) (d : Nat → Nat) (th : Int32) (z : S7) (c : C5) (num : Int32) (hc : okC c) (hv : zRg c num < 0) : Met l yX1_rung wsX1_rung ({ frames := 4, cells := 0, slots := 0, locals := 87 }) (va_Pc [.ref h, .int num] (zPre D N0 cA cL (wM h d cA (th) z c ++ E))) (va_Qi (fun (rv : Int32) (_ : Unit) => rv = 0) (fun _ t => zPost D N0 (wM h d cA (1) z c ++ E) t) (zA N0)) 0 0 (zA N0) := by
  refine Met.ofW (cc := cX1_rung) (maxL := 5) (ret := (some .int)) (by decide) rfl ?_
  intro pr e s m ag below meth cd s₁ B hml hv
  obtain ⟨rfl, hN, hP, hD, hK, hE⟩ := hv
  have hx := B.exec
  have hb := B.bytes
  have hr := B.returns
  have hts := atoms_spec (ws := wsX1_rung) B.pre
  have hown : s.vm.findClass RX1 = some m.cls := findClass_of_methodNamed B.named
  have hlocks := B.notSynchronized
  have hS : va_S (zA N0) s.heap s.heap [] := va_S.rf
  have hl := lv_entry ([.ref h, .int num]) (n := 5) (Nat.le_of_ble_eq_true rfl)
  rw [lg_entry_eq]
  generalize (lg_sl ([.ref h, .int num]) ++ List.replicate (5 - (lg_sl ([.ref h, .int num])).length) Slot.unset).toArray = ls at hl ⊢
  have hl : lv_has ls 5 [(0, .ref h), (1, .int num)] := hl
  have loop : ∀ (n : Nat) (k : Nat), k ≤ 121 → 122 ≤ k + n → ∀ (H : Heap) (locs : List Loc), va_P D vwCl (wM h d cA (th) z c ++ E) H → va_D (zA N0) (wM h d cA (th) z c ++ E) → va_S (zA N0) s.heap H locs → ∀ (ls : Array Slot), lv_has ls 5 [(2, .int (num - zRcn c k)), (3, .int (zRgn c num k)), (4, .int (nI (100 * k))), (0, .ref h), (1, .int num)] → W pr l e (headSpec wsX1_rung ({ frames := 4, cells := 0, slots := 0, locals := 87 })).room s m ([.ref h, .int num] : List Value).toArray below meth cd H locs 0 0 (MQ below (va_Qi (fun (rv : Int32) (_ : Unit) => rv = 0) (fun _ t => zPost D N0 (wM h d cA (1) z c ++ E) t) (zA N0)) ([.ref h, .int num] : List Value).toArray s 0 0 (zA N0)) (F0 m 7 ls []) := by
    intro n
    induction n with
    | zero =>
      intro k hk hn
      omega
    | succ n ih =>
      intro k hk hn H locs hP hD hS ls hl
      refine lv_iload hx hb dX1_rung_7 (lv_at hl 2 rfl) ?_
      refine lv_sipush (v := 12000) hx hb dX1_rung_9 (by decide) ?_
      refine lv_icmp_gt (tgt := 44) hx hb dX1_rung_12 (by decide) (fun c_12 => ?_) (fun c_12 => ?_)
      · have hk1 : k = 121 := by have := (nI_ltI (a := 12000) (by decide) (by omega)).mp c_12; omega
        subst hk1
        refine lv_aload_n hx hb dX1_rung_44 rfl (lv_at hl 3 rfl) ?_
        refine lv_iload_n hx hb dX1_rung_45 rfl (lv_at hl 1 rfl) ?_
        refine lv_if_lt (tgt := 53) hx hb dX1_rung_46 (by decide) (fun c_46 => ?_) (fun c_46 => ?_)
        · refine lv_iconst (v := 1) hx hb dX1_rung_53 (by decide) ?_
          refine va_calli (va_runV (As := [.int 1]) (rest := []) ⟨hx, hb, hml, hown, hts⟩ (c_X1_holds_n l D N0 cA cL E h d (th) z c 1 (by decide)) (cwV 1 hts gX1_rung_X1_holds rfl rfl rfl (by decide +kernel) ⟨Nat.le_of_ble_eq_true rfl, Nat.le_of_ble_eq_true rfl⟩) ⟨zPre.blind, va_recv hK hP (ci := 1) (q0 := 0) rfl rfl, zPre.call hN hP hD hK hE hS⟩ rfl rfl hl.1 rfl (lv_room (Nat.le_of_ble_eq_true rfl)) dX1_rung_54 ⟨Nat.zero_le _, Nat.zero_le _⟩) hS (fun _ _ h9 => h9) (fun _ h9 => h9) (fun r_54 _ t H locs ht hvm h_54 hB hz1 hk1 hS => ?_)
          have h_54 : r_54 = 0 := h_54
          subst h_54
          obtain ⟨hP, hD⟩ := hB
          rw [ht] at hP
          have hP : va_P D vwCl (wM h d cA (1) z c ++ E) H := hP
          have hD : va_D (zA N0) (wM h d cA (1) z c ++ E) := hD
          refine lv_if_eq (tgt := 64) hx hb dX1_rung_57 (by decide) (fun _ => ?_) (fun c_57 => absurd c_57 (by decide))
          refine lv_iconst (v := 0) hx hb dX1_rung_64 (by decide) ?_
          exact W.iret (v := 0) hx hb hr (fun t ht hW => ⟨⟨_, (), rfl, rfl, ⟨by rw [ht]; exact hP, hD⟩⟩, hS.F ht⟩) hS.2.2 dX1_rung_65
        · exact absurd hv c_46
      · have hk1 : k < 121 := by
          rcases Nat.lt_or_ge k 121 with q | q
          · exact q
          · exact absurd ((nI_ltI (a := 12000) (by decide) (by omega)).mpr (by omega)) c_12
        refine lv_aload_n hx hb dX1_rung_15 rfl (lv_at hl 3 rfl) ?_
        refine lv_iload hx hb dX1_rung_16 (lv_at hl 2 rfl) ?_
        refine vp_callSi ((va_runV (As := [.int (nI (100 * k))]) (rest := []) ⟨hx, hb, hml, hown, hts⟩ (c_X1_step l D N0 cA cL E h d (th) z c (nI (100 * k)) hc) (cwV 1 hts gX1_rung_X1_step rfl rfl rfl (by decide +kernel) ⟨Nat.le_of_ble_eq_true rfl, Nat.le_of_ble_eq_true rfl⟩) ⟨zPre.blind, va_recv hK hP (ci := 1) (q0 := 0) rfl rfl, zPre.call hN hP hD hK hE hS⟩ rfl rfl hl.1 rfl (lv_room (Nat.le_of_ble_eq_true rfl)) dX1_rung_18 ⟨Nat.zero_le _, Nat.zero_le _⟩).run) (fun r_18 h_18 => ?_)
        have h_18 : r_18 = (zStep c (nI (100 * k))) := h_18
        subst h_18
        refine lv_if_lt (tgt := 38) hx hb dX1_rung_21 (by decide) (fun c_21 => ?_) (fun c_21 => ?_)
        · refine lv_iinc (v := (nI (100 * (k + 1)))) (lv' := [(4, .int (nI (100 * (k + 1)))), (2, .int (num - zRcn c k)), (3, .int (zRgn c num k)), (0, .ref h), (1, .int num)]) hx hb dX1_rung_38 hl (k := 2) rfl (z_inc (100 * k) 100) (by decide) rfl (fun ls hl => ?_)
          refine lv_goto (tgt := 7) hx hb dX1_rung_41 (by decide) ?_
          have hl : lv_has ls 5 [(4, .int (nI (100 * (k + 1)))), (2, .int (num - zRcn c (k + 1))), (3, .int (zRgn c num (k + 1))), (0, .ref h), (1, .int num)] := by
            rw [show ((num - zRcn c (k + 1)) : Int32) = (num - zRcn c k) from (by rw [zRcn_0 c_21]), show ((zRgn c num (k + 1)) : Int32) = (zRgn c num k) from (zRgn_s (fun q => q.1 c_21))]
            exact hl
          exact ih (k + 1) (by omega) (by omega) _ _ hP hD hS ls (lv_sub hl [1, 2, 0, 3, 4] rfl)
        · refine lv_iload_n hx hb dX1_rung_24 rfl (lv_at hl 0 rfl) ?_
          refine lv_if_ne (tgt := 33) hx hb dX1_rung_25 (by decide) (fun c_25 => ?_) (fun c_25 => ?_)
          · refine lv_iload_n hx hb dX1_rung_33 rfl (lv_at hl 1 rfl) ?_
            refine lv_istore_n (lv' := [(3, .int (zRgn c num k)), (2, .int (num - zRcn c k)), (4, .int (nI (100 * k))), (0, .ref h), (1, .int num)]) hx hb dX1_rung_34 rfl hl (by decide) rfl (fun ls hl => ?_)
            refine lv_iinc (v := (num - zRcn c k + Int32.ofInt (-1))) (lv' := [(2, .int (num - zRcn c k + Int32.ofInt (-1))), (3, .int (zRgn c num k)), (4, .int (nI (100 * k))), (0, .ref h), (1, .int num)]) hx hb dX1_rung_35 hl (k := 1) rfl rfl (by decide) rfl (fun ls hl => ?_)
            refine lv_iinc (v := (nI (100 * (k + 1)))) (lv' := [(4, .int (nI (100 * (k + 1)))), (2, .int (num - zRcn c k + Int32.ofInt (-1))), (3, .int (zRgn c num k)), (0, .ref h), (1, .int num)]) hx hb dX1_rung_38 hl (k := 2) rfl (z_inc (100 * k) 100) (by decide) rfl (fun ls hl => ?_)
            refine lv_goto (tgt := 7) hx hb dX1_rung_41 (by decide) ?_
            have hl : lv_has ls 5 [(4, .int (nI (100 * (k + 1)))), (2, .int (num - zRcn c (k + 1))), (3, .int (zRgn c num (k + 1))), (0, .ref h), (1, .int num)] := by
              rw [show ((num - zRcn c (k + 1)) : Int32) = (num - zRcn c k + Int32.ofInt (-1)) from (by rw [zRcn_1 c_21, z_sub1]), show ((zRgn c num (k + 1)) : Int32) = (zRgn c num k) from (zRgn_s (fun q => z_subn c_25 q.2))]
              exact hl
            exact ih (k + 1) (by omega) (by omega) _ _ hP hD hS ls (lv_sub hl [1, 2, 0, 3, 4] rfl)
          · refine lv_iload hx hb dX1_rung_28 (lv_at hl 2 rfl) ?_
            refine lv_goto (tgt := 34) hx hb dX1_rung_30 (by decide) ?_
            refine lv_istore_n (lv' := [(3, .int (nI (100 * k))), (2, .int (num - zRcn c k)), (4, .int (nI (100 * k))), (0, .ref h), (1, .int num)]) hx hb dX1_rung_34 rfl hl (by decide) rfl (fun ls hl => ?_)
            refine lv_iinc (v := (num - zRcn c k + Int32.ofInt (-1))) (lv' := [(2, .int (num - zRcn c k + Int32.ofInt (-1))), (3, .int (nI (100 * k))), (4, .int (nI (100 * k))), (0, .ref h), (1, .int num)]) hx hb dX1_rung_35 hl (k := 1) rfl rfl (by decide) rfl (fun ls hl => ?_)
            refine lv_iinc (v := (nI (100 * (k + 1)))) (lv' := [(4, .int (nI (100 * (k + 1)))), (2, .int (num - zRcn c k + Int32.ofInt (-1))), (3, .int (nI (100 * k))), (0, .ref h), (1, .int num)]) hx hb dX1_rung_38 hl (k := 2) rfl (z_inc (100 * k) 100) (by decide) rfl (fun ls hl => ?_)
            refine lv_goto (tgt := 7) hx hb dX1_rung_41 (by decide) ?_
            have hl : lv_has ls 5 [(4, .int (nI (100 * (k + 1)))), (2, .int (num - zRcn c (k + 1))), (3, .int (zRgn c num (k + 1))), (0, .ref h), (1, .int num)] := by
              rw [show ((num - zRcn c (k + 1)) : Int32) = (num - zRcn c k + Int32.ofInt (-1)) from (by rw [zRcn_1 c_21, z_sub1]), show ((zRgn c num (k + 1)) : Int32) = (nI (100 * k)) from (zRgn_1 ⟨c_21, z_sub0 c_25⟩)]
              exact hl
            exact ih (k + 1) (by omega) (by omega) _ _ hP hD hS ls (lv_sub hl [1, 2, 0, 3, 4] rfl)
  refine lv_iload_n hx hb dX1_rung_0 rfl (lv_at hl 1 rfl) ?_
  refine lv_istore_n (lv' := [(2, .int num), (0, .ref h), (1, .int num)]) hx hb dX1_rung_1 rfl hl (by decide) rfl (fun ls hl => ?_)
  refine lv_iconst (v := (-1)) hx hb dX1_rung_2 (by decide) ?_
  refine lv_istore_n (lv' := [(3, .int (-1)), (2, .int num), (0, .ref h), (1, .int num)]) hx hb dX1_rung_3 rfl hl (by decide) rfl (fun ls hl => ?_)
  refine lv_iconst (v := 0) hx hb dX1_rung_4 (by decide) ?_
  refine lv_istore (lv' := [(4, .int 0), (3, .int (-1)), (2, .int num), (0, .ref h), (1, .int num)]) hx hb dX1_rung_5 hl (by decide) rfl (fun ls hl => ?_)
  have hl : lv_has ls 5 [(4, .int 0), (3, .int (-1)), (2, .int (num - zRcn c 0)), (0, .ref h), (1, .int num)] := by
    rw [show ((num - zRcn c 0) : Int32) = num from (Int32.sub_zero num)]
    exact hl
  exact loop 122 0 (by decide) (by decide) _ _ hP hD hS ls (lv_sub hl [2, 1, 0, 3, 4] rfl)

theorem zBkn_le (md : Nat) (g : Nat → Int32) : ∀ j, zBkn md g j ≤ j := by
  intro j
  induction j with
  | zero => exact Nat.le_refl _
  | succ j ih =>
    show (if zW md (zBkn md g j) g < zW md (j + 1) g then j + 1 else zBkn md g j) ≤ j + 1
    split
    · exact Nat.le_refl _
    · exact Nat.le_succ_of_le ih

set_option maxHeartbeats 4000000 in
set_option maxRecDepth 100000 in
theorem c_X1_bestKey_v (l : Launch) (D : va_G) (N0 : Nat) (cA cL : ClassId) (E : va_W) (h : Nat) (d : Nat → Nat) (th : Int32) (z : S7) (c : C5) (md : Nat) (hm : md < 8) : Met l yX1_bestKey wsX1_bestKey ({ frames := 4, cells := 0, slots := 0, locals := 90 }) (va_Pc [.ref h, .int (nI md)] (zPre D N0 cA cL (wM h d cA (th) z c ++ E))) (va_Qi (fun (rv : Int32) (_ : Unit) => rv = nI (zBk md z.2.2.2.2.2.2)) (fun _ t => zPost D N0 (wM h d cA (0) z c ++ E) t) (zA N0)) 0 0 (zA N0) := by
  refine Met.ofW (cc := cX1_bestKey) (maxL := 4) (ret := (some .int)) (by decide) rfl ?_
  intro pr e s m ag below meth cd s₁ B hml hv
  obtain ⟨rfl, hN, hP, hD, hK, hE⟩ := hv
  have hx := B.exec
  have hb := B.bytes
  have hr := B.returns
  have hts := atoms_spec (ws := wsX1_bestKey) B.pre
  have hown : s.vm.findClass RX1 = some m.cls := findClass_of_methodNamed B.named
  have hlocks := B.notSynchronized
  have hS : va_S (zA N0) s.heap s.heap [] := va_S.rf
  have hl := lv_entry ([.ref h, .int (nI md)]) (n := 4) (Nat.le_of_ble_eq_true rfl)
  rw [lg_entry_eq]
  generalize (lg_sl ([.ref h, .int (nI md)]) ++ List.replicate (4 - (lg_sl ([.ref h, .int (nI md)])).length) Slot.unset).toArray = ls at hl ⊢
  have hl : lv_has ls 4 [(0, .ref h), (1, .int (nI md))] := hl
  have loop : ∀ (n : Nat) (j : Nat), j ≤ 11 → 12 ≤ j + n → ∀ (H : Heap) (locs : List Loc), va_P D vwCl (wM h d cA (0) z c ++ E) H → va_D (zA N0) (wM h d cA (0) z c ++ E) → va_S (zA N0) s.heap H locs → ∀ (ls : Array Slot), lv_has ls 4 [(2, .int (nI (zBkn md z.2.2.2.2.2.2 j))), (3, .int (nI (j + 1))), (0, .ref h), (1, .int (nI md))] → W pr l e (headSpec wsX1_bestKey ({ frames := 4, cells := 0, slots := 0, locals := 90 })).room s m ([.ref h, .int (nI md)] : List Value).toArray below meth cd H locs 0 0 (MQ below (va_Qi (fun (rv : Int32) (_ : Unit) => rv = nI (zBk md z.2.2.2.2.2.2)) (fun _ t => zPost D N0 (wM h d cA (0) z c ++ E) t) (zA N0)) ([.ref h, .int (nI md)] : List Value).toArray s 0 0 (zA N0)) (F0 m 28 ls []) := by
    intro n
    induction n with
    | zero =>
      intro j hj hn
      omega
    | succ n ih =>
      intro j hj hn H locs hP hD hS ls hl
      refine lv_iload_n hx hb dX1_bestKey_28 rfl (lv_at hl 1 rfl) ?_
      refine lv_bipush (v := 12) hx hb dX1_bestKey_29 (by decide) ?_
      refine lv_icmp_ge (tgt := 61) hx hb dX1_bestKey_31 (by decide) (fun c_31 => ?_) (fun c_31 => ?_)
      · have hj11 : j = 11 := by have := (nI_leI (a := 12) (by decide) (by omega)).mp c_31; omega
        subst hj11
        refine lv_iload_n hx hb dX1_bestKey_61 rfl (lv_at hl 0 rfl) ?_
        exact W.iret (v := (nI (zBkn md z.2.2.2.2.2.2 11))) hx hb hr (fun t ht hW => ⟨⟨_, (), rfl, rfl, ⟨by rw [ht]; exact hP, hD⟩⟩, hS.F ht⟩) hS.2.2 dX1_bestKey_62
      · have hj11 : j < 11 := by
          rcases Nat.lt_or_ge j 11 with q | q
          · exact q
          · exact absurd ((nI_leI (a := 12) (by decide) (by omega)).mpr (by omega)) c_31
        refine lv_aload_n hx hb dX1_bestKey_34 rfl (lv_at hl 2 rfl) ?_
        refine lv_iload_n hx hb dX1_bestKey_35 rfl (lv_at hl 1 rfl) ?_
        refine lv_iload_n hx hb dX1_bestKey_36 rfl (lv_at hl 3 rfl) ?_
        refine vp_callSi ((va_runV (As := [.int (nI (j + 1)), .int (nI md)]) (rest := []) ⟨hx, hb, hml, hown, hts⟩ (c_X1_inside l D N0 cA cL E h d (0) z c (j + 1) md (by omega) hm) (cwV 2 hts gX1_bestKey_X1_inside rfl rfl rfl (by decide +kernel) ⟨Nat.le_of_ble_eq_true rfl, Nat.le_of_ble_eq_true rfl⟩) ⟨zPre.blind, va_recv hK hP (ci := 1) (q0 := 0) rfl rfl, zPre.call hN hP hD hK hE hS⟩ rfl rfl hl.1 rfl (lv_room (Nat.le_of_ble_eq_true rfl)) dX1_bestKey_37 ⟨Nat.zero_le _, Nat.zero_le _⟩).run) (fun r_37 h_37 => ?_)
        have h_37 : r_37 = (zW md (j + 1) z.2.2.2.2.2.2) := h_37
        subst h_37
        refine lv_aload_n hx hb dX1_bestKey_40 rfl (lv_at hl 2 rfl) ?_
        refine lv_iload_n hx hb dX1_bestKey_41 rfl (lv_at hl 0 rfl) ?_
        refine lv_iload_n hx hb dX1_bestKey_42 rfl (lv_at hl 3 rfl) ?_
        refine vp_callSi ((va_runV (As := [.int (nI (zBkn md z.2.2.2.2.2.2 j)), .int (nI md)]) (rest := [.int (zW md (j + 1) z.2.2.2.2.2.2)]) ⟨hx, hb, hml, hown, hts⟩ (c_X1_inside l D N0 cA cL E h d (0) z c (zBkn md z.2.2.2.2.2.2 j) md (by have := zBkn_le md z.2.2.2.2.2.2 j; omega) hm) (cwV 2 hts gX1_bestKey_X1_inside rfl rfl rfl (by decide +kernel) ⟨Nat.le_of_ble_eq_true rfl, Nat.le_of_ble_eq_true rfl⟩) ⟨zPre.blind, va_recv hK hP (ci := 1) (q0 := 0) rfl rfl, zPre.call hN hP hD hK hE hS⟩ rfl rfl hl.1 rfl (lv_room (Nat.le_of_ble_eq_true rfl)) dX1_bestKey_43 ⟨Nat.zero_le _, Nat.zero_le _⟩).run) (fun r_43 h_43 => ?_)
        have h_43 : r_43 = (zW md (zBkn md z.2.2.2.2.2.2 j) z.2.2.2.2.2.2) := h_43
        subst h_43
        refine lv_icmp_le (tgt := 53) hx hb dX1_bestKey_46 (by decide) (fun c_46 => ?_) (fun c_46 => ?_)
        · refine lv_iload_n hx hb dX1_bestKey_53 rfl (lv_at hl 0 rfl) ?_
          refine lv_istore_n (lv' := [(2, .int (nI (zBkn md z.2.2.2.2.2.2 j))), (3, .int (nI (j + 1))), (0, .ref h), (1, .int (nI md))]) hx hb dX1_bestKey_54 rfl hl (by decide) rfl (fun ls hl => ?_)
          refine lv_iinc (v := (nI (j + 1 + 1))) (lv' := [(3, .int (nI (j + 1 + 1))), (2, .int (nI (zBkn md z.2.2.2.2.2.2 j))), (0, .ref h), (1, .int (nI md))]) hx hb dX1_bestKey_55 hl (k := 1) rfl (z_inc (j + 1) 1) (by decide) rfl (fun ls hl => ?_)
          refine lv_goto (tgt := 28) hx hb dX1_bestKey_58 (by decide) ?_
          have hl : lv_has ls 4 [(3, .int (nI (j + 1 + 1))), (2, .int (nI (zBkn md z.2.2.2.2.2.2 (j + 1)))), (0, .ref h), (1, .int (nI md))] := by
            rw [show ((nI (zBkn md z.2.2.2.2.2.2 (j + 1))) : Int32) = (nI (zBkn md z.2.2.2.2.2.2 j)) from (by rw [show zBkn md z.2.2.2.2.2.2 (j + 1) = zBkn md z.2.2.2.2.2.2 j from if_neg (Int32.not_lt.mpr c_46)])]
            exact hl
          exact ih (j + 1) (by omega) (by omega) _ _ hP hD hS ls (lv_sub hl [1, 0, 2, 3] rfl)
        · refine lv_iload_n hx hb dX1_bestKey_49 rfl (lv_at hl 1 rfl) ?_
          refine lv_goto (tgt := 54) hx hb dX1_bestKey_50 (by decide) ?_
          refine lv_istore_n (lv' := [(2, .int (nI (j + 1))), (3, .int (nI (j + 1))), (0, .ref h), (1, .int (nI md))]) hx hb dX1_bestKey_54 rfl hl (by decide) rfl (fun ls hl => ?_)
          refine lv_iinc (v := (nI (j + 1 + 1))) (lv' := [(3, .int (nI (j + 1 + 1))), (2, .int (nI (j + 1))), (0, .ref h), (1, .int (nI md))]) hx hb dX1_bestKey_55 hl (k := 1) rfl (z_inc (j + 1) 1) (by decide) rfl (fun ls hl => ?_)
          refine lv_goto (tgt := 28) hx hb dX1_bestKey_58 (by decide) ?_
          have hl : lv_has ls 4 [(3, .int (nI (j + 1 + 1))), (2, .int (nI (zBkn md z.2.2.2.2.2.2 (j + 1)))), (0, .ref h), (1, .int (nI md))] := by
            rw [show ((nI (zBkn md z.2.2.2.2.2.2 (j + 1))) : Int32) = (nI (j + 1)) from (by rw [show zBkn md z.2.2.2.2.2.2 (j + 1) = j + 1 from if_pos (Int32.not_le.mp c_46)])]
            exact hl
          exact ih (j + 1) (by omega) (by omega) _ _ hP hD hS ls (lv_sub hl [1, 0, 2, 3] rfl)
  refine lv_aload_n hx hb dX1_bestKey_0 rfl (lv_at hl 0 rfl) ?_
  refine lv_iload_n hx hb dX1_bestKey_1 rfl (lv_at hl 1 rfl) ?_
  refine lv_iconst (v := 0) hx hb dX1_bestKey_2 (by decide) ?_
  refine lv_bipush (v := 7) hx hb dX1_bestKey_3 (by decide) ?_
  refine vp_callSi ((va_runS (As := [.int (nI md), .int 0, .int 7]) (rest := [.ref h]) ⟨hx, hb, hml, hown, hts⟩ (c_X1_in l (nI md) 0 7) (va_cwS 3 hts gX1_bestKey_X1_in rfl rfl rfl (by decide +kernel) ⟨Nat.le_of_ble_eq_true rfl, Nat.le_of_ble_eq_true rfl⟩) ⟨zT.blind, zT.call⟩ rfl rfl hl.1 rfl (lv_room (Nat.le_of_ble_eq_true rfl)) dX1_bestKey_5 ⟨Nat.zero_le _, Nat.zero_le _⟩).run) (fun r_5 h_5 => ?_)
  have h_5 : r_5 = (zb (0 ≤ (nI md) ∧ (nI md) ≤ 7)) := h_5
  subst h_5
  refine lv_if_eq (tgt := 15) hx hb dX1_bestKey_8 (by decide) (fun c_8 => ?_) (fun c_8 => ?_)
  · exact absurd (zn_in (n := 7) (by omega) (by decide)) (zb_f c_8)
  · refine lv_iconst (v := 0) hx hb dX1_bestKey_11 (by decide) ?_
    refine lv_goto (tgt := 16) hx hb dX1_bestKey_12 (by decide) ?_
    refine va_calli (va_runV (As := [.int 0]) (rest := []) ⟨hx, hb, hml, hown, hts⟩ (c_X1_holds_0 l D N0 cA cL E h d (th) z c) (cwV 1 hts gX1_bestKey_X1_holds rfl rfl rfl (by decide +kernel) ⟨Nat.le_of_ble_eq_true rfl, Nat.le_of_ble_eq_true rfl⟩) ⟨zPre.blind, va_recv hK hP (ci := 1) (q0 := 0) rfl rfl, zPre.call hN hP hD hK hE hS⟩ rfl rfl hl.1 rfl (lv_room (Nat.le_of_ble_eq_true rfl)) dX1_bestKey_16 ⟨Nat.zero_le _, Nat.zero_le _⟩) hS (fun _ _ h9 => h9) (fun _ h9 => h9) (fun r_16 _ t H locs ht hvm h_16 hB hz1 hk1 hS => ?_)
    have h_16 : r_16 = 1 := h_16
    subst h_16
    obtain ⟨hP, hD⟩ := hB
    rw [ht] at hP
    have hP : va_P D vwCl (wM h d cA (0) z c ++ E) H := hP
    have hD : va_D (zA N0) (wM h d cA (0) z c ++ E) := hD
    refine lv_if_ne (tgt := 24) hx hb dX1_bestKey_19 (by decide) (fun _ => ?_) (fun c_19 => absurd c_19 (by decide))
    refine lv_iconst (v := 0) hx hb dX1_bestKey_24 (by decide) ?_
    refine lv_istore_n (lv' := [(2, .int 0), (0, .ref h), (1, .int (nI md))]) hx hb dX1_bestKey_25 rfl hl (by decide) rfl (fun ls hl => ?_)
    refine lv_iconst (v := 1) hx hb dX1_bestKey_26 (by decide) ?_
    refine lv_istore_n (lv' := [(3, .int 1), (2, .int 0), (0, .ref h), (1, .int (nI md))]) hx hb dX1_bestKey_27 rfl hl (by decide) rfl (fun ls hl => ?_)
    exact loop 12 0 (by decide) (by decide) _ _ hP hD hS ls (lv_sub hl [1, 0, 2, 3] rfl)

set_option maxHeartbeats 4000000 in
set_option maxRecDepth 100000 in
theorem c_X1_bestKey_1 (l : Launch) (D : va_G) (N0 : Nat) (cA cL : ClassId) (E : va_W) (h : Nat) (d : Nat → Nat) (th : Int32) (z : S7) (c : C5) (a0 : Int32) (hs : ¬ (0 ≤ a0 ∧ a0 ≤ 7)) : Met l yX1_bestKey wsX1_bestKey ({ frames := 1, cells := 0, slots := 0, locals := 22 }) (va_Pc [.ref h, .int a0] (zPre D N0 cA cL (wM h d cA (th) z c ++ E))) (va_Qi (fun (rv : Int32) (_ : Unit) => rv = 0) (fun _ t => zPost D N0 (wM h d cA (1) z c ++ E) t) (zA N0)) 0 0 (zA N0) := by
  refine Met.ofW (cc := cX1_bestKey) (maxL := 4) (ret := (some .int)) (by decide) rfl ?_
  intro pr e s m ag below meth cd s₁ B hml hv
  obtain ⟨rfl, hN, hP, hD, hK, hE⟩ := hv
  have hx := B.exec
  have hb := B.bytes
  have hr := B.returns
  have hts := atoms_spec (ws := wsX1_bestKey) B.pre
  have hown : s.vm.findClass RX1 = some m.cls := findClass_of_methodNamed B.named
  have hlocks := B.notSynchronized
  have hS : va_S (zA N0) s.heap s.heap [] := va_S.rf
  have hl := lv_entry ([.ref h, .int a0]) (n := 4) (Nat.le_of_ble_eq_true rfl)
  rw [lg_entry_eq]
  generalize (lg_sl ([.ref h, .int a0]) ++ List.replicate (4 - (lg_sl ([.ref h, .int a0])).length) Slot.unset).toArray = ls at hl ⊢
  have hl : lv_has ls 4 [(0, .ref h), (1, .int a0)] := hl
  refine lv_aload_n hx hb dX1_bestKey_0 rfl (lv_at hl 0 rfl) ?_
  refine lv_iload_n hx hb dX1_bestKey_1 rfl (lv_at hl 1 rfl) ?_
  refine lv_iconst (v := 0) hx hb dX1_bestKey_2 (by decide) ?_
  refine lv_bipush (v := 7) hx hb dX1_bestKey_3 (by decide) ?_
  refine vp_callSi ((va_runS (As := [.int a0, .int 0, .int 7]) (rest := [.ref h]) ⟨hx, hb, hml, hown, hts⟩ (c_X1_in l a0 0 7) (va_cwS 3 hts gX1_bestKey_X1_in rfl rfl rfl (by decide +kernel) ⟨Nat.le_of_ble_eq_true rfl, Nat.le_of_ble_eq_true rfl⟩) ⟨zT.blind, zT.call⟩ rfl rfl hl.1 rfl (lv_room (Nat.le_of_ble_eq_true rfl)) dX1_bestKey_5 ⟨Nat.zero_le _, Nat.zero_le _⟩).run) (fun r_5 h_5 => ?_)
  have h_5 : r_5 = (zb (0 ≤ a0 ∧ a0 ≤ 7)) := h_5
  subst h_5
  refine lv_if_eq (tgt := 15) hx hb dX1_bestKey_8 (by decide) (fun c_8 => ?_) (fun c_8 => ?_)
  · refine lv_iconst (v := 1) hx hb dX1_bestKey_15 (by decide) ?_
    refine va_calli (va_runV (As := [.int 1]) (rest := []) ⟨hx, hb, hml, hown, hts⟩ (c_X1_holds_n l D N0 cA cL E h d (th) z c 1 (by decide)) (cwV 1 hts gX1_bestKey_X1_holds rfl rfl rfl (by decide +kernel) ⟨Nat.le_of_ble_eq_true rfl, Nat.le_of_ble_eq_true rfl⟩) ⟨zPre.blind, va_recv hK hP (ci := 1) (q0 := 0) rfl rfl, zPre.call hN hP hD hK hE hS⟩ rfl rfl hl.1 rfl (lv_room (Nat.le_of_ble_eq_true rfl)) dX1_bestKey_16 ⟨Nat.zero_le _, Nat.zero_le _⟩) hS (fun _ _ h9 => h9) (fun _ h9 => h9) (fun r_16 _ t H locs ht hvm h_16 hB hz1 hk1 hS => ?_)
    have h_16 : r_16 = 0 := h_16
    subst h_16
    obtain ⟨hP, hD⟩ := hB
    rw [ht] at hP
    have hP : va_P D vwCl (wM h d cA (1) z c ++ E) H := hP
    have hD : va_D (zA N0) (wM h d cA (1) z c ++ E) := hD
    refine lv_if_ne (tgt := 24) hx hb dX1_bestKey_19 (by decide) (fun c_19 => absurd c_19 (by decide)) (fun _ => ?_)
    refine lv_iconst (v := 0) hx hb dX1_bestKey_22 (by decide) ?_
    exact W.iret (v := 0) hx hb hr (fun t ht hW => ⟨⟨_, (), rfl, rfl, ⟨by rw [ht]; exact hP, hD⟩⟩, hS.F ht⟩) hS.2.2 dX1_bestKey_23
  · exact absurd (zb_t c_8) hs
