theorem zMaj_1 {n : Nat} (hn : n < 100) (h : ¬ 3 ≤ nI (n % 7)) : nI (n / 7 * 12) + 2 * nI (n % 7) = nI (zMaj n) := by
  have h1 : n % 7 < 3 := by
    rcases Nat.lt_or_ge (n % 7) 3 with q | q
    · exact q
    · exact absurd ((nI_leI (a := 3) (by decide) (by omega)).mpr q) h
  have e : 2 * nI (n % 7) = nI (2 * (n % 7)) := pk_mul 2 (n % 7)
  rw [e, nI_add]
  unfold zMaj
  rw [if_pos h1]
theorem zMaj_2 {n : Nat} (hn : n < 100) (h : 3 ≤ nI (n % 7)) : nI (n / 7 * 12) + (2 * nI (n % 7) - 1) = nI (zMaj n) := by
  have h1 : 3 ≤ n % 7 := (nI_leI (a := 3) (by decide) (by omega)).mp h
  have e : 2 * nI (n % 7) = nI (2 * (n % 7)) := pk_mul 2 (n % 7)
  have e2 : nI (2 * (n % 7)) - 1 = nI (2 * (n % 7) - 1) := pk_sub (b := 1) (by omega)
  rw [e, e2, nI_add]
  unfold zMaj
  rw [if_neg (by omega)]
theorem zMaj_le : ∀ md, md < 8 → ∀ i, i < 12 → zMaj md ≤ zMaj (md + i) := by decide +kernel
theorem zMaj_lt : ∀ n, n < 20 → zMaj n < 100 := by decide +kernel
theorem zT_n {md i : Nat} (h : ¬ md = 7) : zMaj (md + i) - zMaj md = zT md i := (if_neg h).symm
theorem zT_7 {i : Nat} : zT 7 i = i := if_pos rfl
theorem zT_12 : ∀ md, md < 8 → ∀ i, i < 12 → zT md i < 100 := by decide +kernel
theorem zN_12 (md : Nat) : zN md ≤ 12 := by unfold zN; split <;> omega
theorem zStn_0 {md k i : Nat} (h : ¬ zT md i = k) : zStn md k (i + 1) = zStn md k i := if_neg h
theorem zStn_1 {md k i : Nat} (h : zT md i = k) : zStn md k (i + 1) = nI i := if_pos h
theorem zAbs_p {v : Int32} (h : 0 ≤ v) : v = zAbs v := (if_pos h).symm
theorem zAbs_n {v : Int32} (h : ¬ 0 ≤ v) : -v = zAbs v := by
  have e : zAbs v = 0 - v := if_neg h
  rw [e, Int32.zero_sub]
theorem zStep_2 {c : C5} {p : Int32} (h : 0 ≤ p ∧ p ≤ 12000 ∧ p - p / 100 * 100 = 0) : zSt c.2.1 ((p.toNatClampNeg / 100 + 12 - c.1) % 12) = zStep c p := (if_pos h).symm
theorem z_ix12 {i ky : Nat} (hi : i < 1000) (hk : ky < 12) : (nI i - nI ky + 12) - (nI i - nI ky + 12) / 12 * 12 = nI ((i + 12 - ky) % 12) := by
  have e : nI i - nI ky + 12 = nI (i + 12 - ky) := by
    have e1 := pk_sub_toInt (a := i) (b := ky) (by omega) (by omega)
    have e2 : (12 : Int32).toInt = 12 := rfl
    rw [fa_eq, fb_addI (by rw [e1, e2]; omega) (by rw [e1, e2]; omega), e1, e2, nI_toInt (by omega)]
    omega
  rw [e]
  exact pk_rem (d := 12) (by omega) (by decide) (by decide)
theorem zStep_M {c : C5} {p : Int32} (hc : okC c) (hp : zp p) : (p / 100 - nI c.1 + 12) - (p / 100 - nI c.1 + 12) / 12 * 12 = nI ((p.toNatClampNeg / 100 + 12 - c.1) % 12) := by
  have hn := zp_n hp
  obtain ⟨n, hn2, rfl⟩ := nI_of2 (n := 12000) (M := 12000) rfl (Int32.not_lt.mpr hp.1) hp.2
  have e2 : nI n / 100 = nI (n / 100) := pk_div (d := 100) (by omega) (by decide) (by decide)
  rw [e2, nI_clamp (by omega)]
  exact z_ix12 (by omega) hc.1
theorem zFar_1 {r p : Int32} (h : ¬ p ≤ r) : p - r = zFar r p := (if_pos (Int32.not_le.mp h)).symm
theorem zFar_2 {r p : Int32} (h : p ≤ r) : r - p = zFar r p := (if_neg (Int32.not_lt.mpr h)).symm
theorem zNearN_1 {c : C5} {p : Int32} {k : Nat} (h : ¬ zStep c (nI (100 * k)) < 0 ∧ (zNearN c p k < 0 ∨ zFar (nI (100 * k)) p < zFar (zNearN c p k) p)) : zNearN c p (k + 1) = nI (100 * k) := if_pos h
theorem zNearN_0 {c : C5} {p : Int32} {k : Nat} (h : ¬ (¬ zStep c (nI (100 * k)) < 0 ∧ (zNearN c p k < 0 ∨ zFar (nI (100 * k)) p < zFar (zNearN c p k) p))) : zNearN c p (k + 1) = zNearN c p k := if_neg h

set_option maxHeartbeats 4000000 in
set_option maxRecDepth 100000 in
theorem c_X1_in (l : Launch) (v : Int32) (a : Int32) (b : Int32) : Met l yX1_in wsX1_in ({ frames := 0, cells := 0, slots := 0, locals := 0 }) (va_Pc [.int v, .int a, .int b] (fun _ => True)) (vp_Si (fun rv => rv = zb (a ≤ v ∧ v ≤ b))) 0 0 (fun _ => False) := by
  refine Met.ofW (cc := cX1_in) (maxL := 3) (ret := (some .boolean)) (by decide) rfl ?_
  intro pr e s m ag below meth cd s₁ B hml hv
  obtain ⟨rfl, -⟩ := hv
  have hx := B.exec
  have hb := B.bytes
  have hr := B.returns
  have hts := atoms_spec (ws := wsX1_in) B.pre
  have hown : s.vm.findClass RX1 = some m.cls := findClass_of_methodNamed B.named
  have hlocks := B.notSynchronized
  have hl := lv_entry ([.int v, .int a, .int b]) (n := 3) (Nat.le_of_ble_eq_true rfl)
  rw [lg_entry_eq]
  generalize (lg_sl ([.int v, .int a, .int b]) ++ List.replicate (3 - (lg_sl ([.int v, .int a, .int b])).length) Slot.unset).toArray = ls at hl ⊢
  have hl : lv_has ls 3 [(0, .int v), (1, .int a), (2, .int b)] := hl
  refine lv_iload_n hx hb dX1_in_0 rfl (lv_at hl 0 rfl) ?_
  refine lv_iload_n hx hb dX1_in_1 rfl (lv_at hl 1 rfl) ?_
  refine lv_icmp_lt (tgt := 14) hx hb dX1_in_2 (by decide) (fun c_2 => ?_) (fun c_2 => ?_)
  · refine lv_iconst (v := 0) hx hb dX1_in_14 (by decide) ?_
    exact W.zret (v := 0) hx hb hr rfl (fun t ht hW => ⟨_, rfl, (zb_0 (fun q => Int32.not_le.mpr c_2 q.1)).symm, ht⟩) (fun _ h9 => nomatch h9) dX1_in_15
  · refine lv_iload_n hx hb dX1_in_5 rfl (lv_at hl 0 rfl) ?_
    refine lv_iload_n hx hb dX1_in_6 rfl (lv_at hl 2 rfl) ?_
    refine lv_icmp_gt (tgt := 14) hx hb dX1_in_7 (by decide) (fun c_7 => ?_) (fun c_7 => ?_)
    · refine lv_iconst (v := 0) hx hb dX1_in_14 (by decide) ?_
      exact W.zret (v := 0) hx hb hr rfl (fun t ht hW => ⟨_, rfl, (zb_0 (fun q => Int32.not_le.mpr c_7 q.2)).symm, ht⟩) (fun _ h9 => nomatch h9) dX1_in_15
    · refine lv_iconst (v := 1) hx hb dX1_in_10 (by decide) ?_
      refine lv_goto (tgt := 15) hx hb dX1_in_11 (by decide) ?_
      exact W.zret (v := 1) hx hb hr rfl (fun t ht hW => ⟨_, rfl, (zb_1 ⟨Int32.not_lt.mp c_2, Int32.not_lt.mp c_7⟩).symm, ht⟩) (fun _ h9 => nomatch h9) dX1_in_15

set_option maxHeartbeats 4000000 in
set_option maxRecDepth 100000 in
theorem c_X1_isScale (l : Launch) (k : Int32) (md : Int32) : Met l yX1_isScale wsX1_isScale ({ frames := 1, cells := 0, slots := 0, locals := 22 }) (va_Pc [.int k, .int md] (fun _ => True)) (vp_Si (fun rv => rv = zb ((0 ≤ k ∧ k ≤ 11) ∧ (0 ≤ md ∧ md ≤ 7)))) 0 0 (fun _ => False) := by
  refine Met.ofW (cc := cX1_isScale) (maxL := 2) (ret := (some .boolean)) (by decide) rfl ?_
  intro pr e s m ag below meth cd s₁ B hml hv
  obtain ⟨rfl, -⟩ := hv
  have hx := B.exec
  have hb := B.bytes
  have hr := B.returns
  have hts := atoms_spec (ws := wsX1_isScale) B.pre
  have hown : s.vm.findClass RX1 = some m.cls := findClass_of_methodNamed B.named
  have hlocks := B.notSynchronized
  have hl := lv_entry ([.int k, .int md]) (n := 2) (Nat.le_of_ble_eq_true rfl)
  rw [lg_entry_eq]
  generalize (lg_sl ([.int k, .int md]) ++ List.replicate (2 - (lg_sl ([.int k, .int md])).length) Slot.unset).toArray = ls at hl ⊢
  have hl : lv_has ls 2 [(0, .int k), (1, .int md)] := hl
  refine lv_iload_n hx hb dX1_isScale_0 rfl (lv_at hl 0 rfl) ?_
  refine lv_iconst (v := 0) hx hb dX1_isScale_1 (by decide) ?_
  refine lv_bipush (v := 11) hx hb dX1_isScale_2 (by decide) ?_
  refine vp_callSi ((va_runS (As := [.int k, .int 0, .int 11]) (rest := []) ⟨hx, hb, hml, hown, hts⟩ (c_X1_in l k 0 11) (va_cwS 3 hts gX1_isScale_X1_in rfl rfl rfl (by decide +kernel) ⟨Nat.le_of_ble_eq_true rfl, Nat.le_of_ble_eq_true rfl⟩) ⟨zT.blind, zT.call⟩ rfl rfl hl.1 rfl (lv_room (Nat.le_of_ble_eq_true rfl)) dX1_isScale_4 ⟨Nat.zero_le _, Nat.zero_le _⟩).run) (fun r_4 h_4 => ?_)
  have h_4 : r_4 = (zb (0 ≤ k ∧ k ≤ 11)) := h_4
  subst h_4
  refine lv_if_eq (tgt := 24) hx hb dX1_isScale_7 (by decide) (fun c_7 => ?_) (fun c_7 => ?_)
  · refine lv_iconst (v := 0) hx hb dX1_isScale_24 (by decide) ?_
    exact W.zret (v := 0) hx hb hr rfl (fun t ht hW => ⟨_, rfl, (zb_0 (fun q => zb_f c_7 q.1)).symm, ht⟩) (fun _ h9 => nomatch h9) dX1_isScale_25
  · refine lv_iload_n hx hb dX1_isScale_10 rfl (lv_at hl 1 rfl) ?_
    refine lv_iconst (v := 0) hx hb dX1_isScale_11 (by decide) ?_
    refine lv_bipush (v := 7) hx hb dX1_isScale_12 (by decide) ?_
    refine vp_callSi ((va_runS (As := [.int md, .int 0, .int 7]) (rest := []) ⟨hx, hb, hml, hown, hts⟩ (c_X1_in l md 0 7) (va_cwS 3 hts gX1_isScale_X1_in rfl rfl rfl (by decide +kernel) ⟨Nat.le_of_ble_eq_true rfl, Nat.le_of_ble_eq_true rfl⟩) ⟨zT.blind, zT.call⟩ rfl rfl hl.1 rfl (lv_room (Nat.le_of_ble_eq_true rfl)) dX1_isScale_14 ⟨Nat.zero_le _, Nat.zero_le _⟩).run) (fun r_14 h_14 => ?_)
    have h_14 : r_14 = (zb (0 ≤ md ∧ md ≤ 7)) := h_14
    subst h_14
    refine lv_if_eq (tgt := 24) hx hb dX1_isScale_17 (by decide) (fun c_17 => ?_) (fun c_17 => ?_)
    · refine lv_iconst (v := 0) hx hb dX1_isScale_24 (by decide) ?_
      exact W.zret (v := 0) hx hb hr rfl (fun t ht hW => ⟨_, rfl, (zb_0 (fun q => zb_f c_17 q.2)).symm, ht⟩) (fun _ h9 => nomatch h9) dX1_isScale_25
    · refine lv_iconst (v := 1) hx hb dX1_isScale_20 (by decide) ?_
      refine lv_goto (tgt := 25) hx hb dX1_isScale_21 (by decide) ?_
      exact W.zret (v := 1) hx hb hr rfl (fun t ht hW => ⟨_, rfl, (zb_1 ⟨zb_t c_7, zb_t c_17⟩).symm, ht⟩) (fun _ h9 => nomatch h9) dX1_isScale_25

set_option maxHeartbeats 4000000 in
set_option maxRecDepth 100000 in
theorem c_X1_isWren (l : Launch) (w : Int32) : Met l yX1_isWren wsX1_isWren ({ frames := 1, cells := 0, slots := 0, locals := 22 }) (va_Pc [.int w] (fun _ => True)) (vp_Si (fun rv => rv = zb (zw w))) 0 0 (fun _ => False) := by
  refine Met.ofW (cc := cX1_isWren) (maxL := 1) (ret := (some .boolean)) (by decide) rfl ?_
  intro pr e s m ag below meth cd s₁ B hml hv
  obtain ⟨rfl, -⟩ := hv
  have hx := B.exec
  have hb := B.bytes
  have hr := B.returns
  have hts := atoms_spec (ws := wsX1_isWren) B.pre
  have hown : s.vm.findClass RX1 = some m.cls := findClass_of_methodNamed B.named
  have hlocks := B.notSynchronized
  have hl := lv_entry ([.int w]) (n := 1) (Nat.le_of_ble_eq_true rfl)
  rw [lg_entry_eq]
  generalize (lg_sl ([.int w]) ++ List.replicate (1 - (lg_sl ([.int w])).length) Slot.unset).toArray = ls at hl ⊢
  have hl : lv_has ls 1 [(0, .int w)] := hl
  refine lv_iload_n hx hb dX1_isWren_0 rfl (lv_at hl 0 rfl) ?_
  refine lv_iconst (v := 0) hx hb dX1_isWren_1 (by decide) ?_
  refine lv_iconst (v := 3) hx hb dX1_isWren_2 (by decide) ?_
  refine vp_callSi ((va_runS (As := [.int w, .int 0, .int 3]) (rest := []) ⟨hx, hb, hml, hown, hts⟩ (c_X1_in l w 0 3) (va_cwS 3 hts gX1_isWren_X1_in rfl rfl rfl (by decide +kernel) ⟨Nat.le_of_ble_eq_true rfl, Nat.le_of_ble_eq_true rfl⟩) ⟨zT.blind, zT.call⟩ rfl rfl hl.1 rfl (lv_room (Nat.le_of_ble_eq_true rfl)) dX1_isWren_3 ⟨Nat.zero_le _, Nat.zero_le _⟩).run) (fun r_3 h_3 => ?_)
  have h_3 : r_3 = (zb (0 ≤ w ∧ w ≤ 3)) := h_3
  subst h_3
  exact W.zret (v := (zb (0 ≤ w ∧ w ≤ 3))) hx hb hr (zb_nar _) (fun t ht hW => ⟨_, rfl, rfl, ht⟩) (fun _ h9 => nomatch h9) dX1_isWren_6

set_option maxHeartbeats 4000000 in
set_option maxRecDepth 100000 in
theorem c_X1_isPitch (l : Launch) (p : Int32) : Met l yX1_isPitch wsX1_isPitch ({ frames := 1, cells := 0, slots := 0, locals := 22 }) (va_Pc [.int p] (fun _ => True)) (vp_Si (fun rv => rv = zb (zp p))) 0 0 (fun _ => False) := by
  refine Met.ofW (cc := cX1_isPitch) (maxL := 1) (ret := (some .boolean)) (by decide) rfl ?_
  intro pr e s m ag below meth cd s₁ B hml hv
  obtain ⟨rfl, -⟩ := hv
  have hx := B.exec
  have hb := B.bytes
  have hr := B.returns
  have hts := atoms_spec (ws := wsX1_isPitch) B.pre
  have hown : s.vm.findClass RX1 = some m.cls := findClass_of_methodNamed B.named
  have hlocks := B.notSynchronized
  have hl := lv_entry ([.int p]) (n := 1) (Nat.le_of_ble_eq_true rfl)
  rw [lg_entry_eq]
  generalize (lg_sl ([.int p]) ++ List.replicate (1 - (lg_sl ([.int p])).length) Slot.unset).toArray = ls at hl ⊢
  have hl : lv_has ls 1 [(0, .int p)] := hl
  refine lv_iload_n hx hb dX1_isPitch_0 rfl (lv_at hl 0 rfl) ?_
  refine lv_iconst (v := 0) hx hb dX1_isPitch_1 (by decide) ?_
  refine lv_sipush (v := 12000) hx hb dX1_isPitch_2 (by decide) ?_
  refine vp_callSi ((va_runS (As := [.int p, .int 0, .int 12000]) (rest := []) ⟨hx, hb, hml, hown, hts⟩ (c_X1_in l p 0 12000) (va_cwS 3 hts gX1_isPitch_X1_in rfl rfl rfl (by decide +kernel) ⟨Nat.le_of_ble_eq_true rfl, Nat.le_of_ble_eq_true rfl⟩) ⟨zT.blind, zT.call⟩ rfl rfl hl.1 rfl (lv_room (Nat.le_of_ble_eq_true rfl)) dX1_isPitch_5 ⟨Nat.zero_le _, Nat.zero_le _⟩).run) (fun r_5 h_5 => ?_)
  have h_5 : r_5 = (zb (0 ≤ p ∧ p ≤ 12000)) := h_5
  subst h_5
  exact W.zret (v := (zb (0 ≤ p ∧ p ≤ 12000))) hx hb hr (zb_nar _) (fun t ht hW => ⟨_, rfl, rfl, ht⟩) (fun _ h9 => nomatch h9) dX1_isPitch_8

set_option maxHeartbeats 4000000 in
set_option maxRecDepth 100000 in
theorem c_X1_major (l : Launch) (n : Nat) (hn : n < 100) : Met l yX1_major wsX1_major ({ frames := 0, cells := 0, slots := 0, locals := 0 }) (va_Pc [.int (nI n)] (fun _ => True)) (vp_Si (fun rv => rv = nI (zMaj n))) 0 0 (fun _ => False) := by
  refine Met.ofW (cc := cX1_major) (maxL := 3) (ret := (some .int)) (by decide) rfl ?_
  intro pr e s m ag below meth cd s₁ B hml hv
  obtain ⟨rfl, -⟩ := hv
  have hx := B.exec
  have hb := B.bytes
  have hr := B.returns
  have hts := atoms_spec (ws := wsX1_major) B.pre
  have hown : s.vm.findClass RX1 = some m.cls := findClass_of_methodNamed B.named
  have hlocks := B.notSynchronized
  have hl := lv_entry ([.int (nI n)]) (n := 3) (Nat.le_of_ble_eq_true rfl)
  rw [lg_entry_eq]
  generalize (lg_sl ([.int (nI n)]) ++ List.replicate (3 - (lg_sl ([.int (nI n)])).length) Slot.unset).toArray = ls at hl ⊢
  have hl : lv_has ls 3 [(0, .int (nI n))] := hl
  refine lv_iload_n hx hb dX1_major_0 rfl (lv_at hl 0 rfl) ?_
  refine lv_bipush (v := 7) hx hb dX1_major_1 (by decide) ?_
  refine lv_idiv hx hb dX1_major_3 (by decide) ?_
  refine lv_bipush (v := 12) hx hb dX1_major_4 (by decide) ?_
  refine lv_imul hx hb dX1_major_6 ?_
  rw [show ((((nI n) / 7) * 12) : Int32) = (nI (n / 7 * 12)) from (by rw [show nI n / 7 = nI (n / 7) from pk_div (d := 7) (by omega) (by decide) (by decide)]; exact pk_mul _ 12)]
  refine lv_istore_n (lv' := [(1, .int (nI (n / 7 * 12))), (0, .int (nI n))]) hx hb dX1_major_7 rfl hl (by decide) rfl (fun ls hl => ?_)
  refine lv_iload_n hx hb dX1_major_8 rfl (lv_at hl 1 rfl) ?_
  refine lv_bipush (v := 7) hx hb dX1_major_9 (by decide) ?_
  refine lv_irem hx hb dX1_major_11 (by decide) ?_
  rw [show (((nI n) - (nI n) / 7 * 7) : Int32) = (nI (n % 7)) from (pk_rem (d := 7) (by omega) (by decide) (by decide))]
  refine lv_istore_n (lv' := [(2, .int (nI (n % 7))), (1, .int (nI (n / 7 * 12))), (0, .int (nI n))]) hx hb dX1_major_12 rfl hl (by decide) rfl (fun ls hl => ?_)
  refine lv_iload_n hx hb dX1_major_13 rfl (lv_at hl 1 rfl) ?_
  refine lv_iload_n hx hb dX1_major_14 rfl (lv_at hl 0 rfl) ?_
  refine lv_iconst (v := 3) hx hb dX1_major_15 (by decide) ?_
  refine lv_icmp_ge (tgt := 25) hx hb dX1_major_16 (by decide) (fun c_16 => ?_) (fun c_16 => ?_)
  · refine lv_iconst (v := 2) hx hb dX1_major_25 (by decide) ?_
    refine lv_iload_n hx hb dX1_major_26 rfl (lv_at hl 0 rfl) ?_
    refine lv_imul hx hb dX1_major_27 ?_
    refine lv_iconst (v := 1) hx hb dX1_major_28 (by decide) ?_
    refine lv_isub hx hb dX1_major_29 ?_
    refine lv_iadd hx hb dX1_major_30 ?_
    exact W.iret (v := ((nI (n / 7 * 12)) + ((2 * (nI (n % 7))) - 1))) hx hb hr (fun t ht hW => ⟨_, rfl, zMaj_2 hn c_16, ht⟩) (fun _ h9 => nomatch h9) dX1_major_31
  · refine lv_iconst (v := 2) hx hb dX1_major_19 (by decide) ?_
    refine lv_iload_n hx hb dX1_major_20 rfl (lv_at hl 0 rfl) ?_
    refine lv_imul hx hb dX1_major_21 ?_
    refine lv_goto (tgt := 30) hx hb dX1_major_22 (by decide) ?_
    refine lv_iadd hx hb dX1_major_30 ?_
    exact W.iret (v := ((nI (n / 7 * 12)) + (2 * (nI (n % 7))))) hx hb hr (fun t ht hW => ⟨_, rfl, zMaj_1 hn c_16, ht⟩) (fun _ h9 => nomatch h9) dX1_major_31

set_option maxHeartbeats 4000000 in
set_option maxRecDepth 100000 in
theorem c_X1_steps (l : Launch) (md : Nat) (hm : md < 8) : Met l yX1_steps wsX1_steps ({ frames := 0, cells := 0, slots := 0, locals := 0 }) (va_Pc [.int (nI md)] (fun _ => True)) (vp_Si (fun rv => rv = nI (zN md))) 0 0 (fun _ => False) := by
  refine Met.ofW (cc := cX1_steps) (maxL := 1) (ret := (some .int)) (by decide) rfl ?_
  intro pr e s m ag below meth cd s₁ B hml hv
  obtain ⟨rfl, -⟩ := hv
  have hx := B.exec
  have hb := B.bytes
  have hr := B.returns
  have hts := atoms_spec (ws := wsX1_steps) B.pre
  have hown : s.vm.findClass RX1 = some m.cls := findClass_of_methodNamed B.named
  have hlocks := B.notSynchronized
  have hl := lv_entry ([.int (nI md)]) (n := 1) (Nat.le_of_ble_eq_true rfl)
  rw [lg_entry_eq]
  generalize (lg_sl ([.int (nI md)]) ++ List.replicate (1 - (lg_sl ([.int (nI md)])).length) Slot.unset).toArray = ls at hl ⊢
  have hl : lv_has ls 1 [(0, .int (nI md))] := hl
  refine lv_iload_n hx hb dX1_steps_0 rfl (lv_at hl 0 rfl) ?_
  refine lv_bipush (v := 7) hx hb dX1_steps_1 (by decide) ?_
  refine lv_icmp_ne (tgt := 11) hx hb dX1_steps_3 (by decide) (fun c_3 => ?_) (fun c_3 => ?_)
  · refine lv_bipush (v := 7) hx hb dX1_steps_11 (by decide) ?_
    exact W.iret (v := 7) hx hb hr (fun t ht hW => ⟨_, rfl, (by rw [show zN md = 7 from if_neg (fun q => c_3 (by rw [q]; rfl))]; rfl), ht⟩) (fun _ h9 => nomatch h9) dX1_steps_13
  · refine lv_bipush (v := 12) hx hb dX1_steps_6 (by decide) ?_
    refine lv_goto (tgt := 13) hx hb dX1_steps_8 (by decide) ?_
    exact W.iret (v := 12) hx hb hr (fun t ht hW => ⟨_, rfl, (by rw [show zN md = 12 from if_pos (z_lit (by omega) (by decide) c_3)]; rfl), ht⟩) (fun _ h9 => nomatch h9) dX1_steps_13

set_option maxHeartbeats 4000000 in
set_option maxRecDepth 100000 in
theorem c_X1_semitone (l : Launch) (md i : Nat) (hm : md < 8) (hi : i < 12) : Met l yX1_semitone wsX1_semitone ({ frames := 1, cells := 0, slots := 0, locals := 22 }) (va_Pc [.int (nI md), .int (nI i)] (fun _ => True)) (vp_Si (fun rv => rv = nI (zT md i))) 0 0 (fun _ => False) := by
  refine Met.ofW (cc := cX1_semitone) (maxL := 2) (ret := (some .int)) (by decide) rfl ?_
  intro pr e s m ag below meth cd s₁ B hml hv
  obtain ⟨rfl, -⟩ := hv
  have hx := B.exec
  have hb := B.bytes
  have hr := B.returns
  have hts := atoms_spec (ws := wsX1_semitone) B.pre
  have hown : s.vm.findClass RX1 = some m.cls := findClass_of_methodNamed B.named
  have hlocks := B.notSynchronized
  have hl := lv_entry ([.int (nI md), .int (nI i)]) (n := 2) (Nat.le_of_ble_eq_true rfl)
  rw [lg_entry_eq]
  generalize (lg_sl ([.int (nI md), .int (nI i)]) ++ List.replicate (2 - (lg_sl ([.int (nI md), .int (nI i)])).length) Slot.unset).toArray = ls at hl ⊢
  have hl : lv_has ls 2 [(0, .int (nI md)), (1, .int (nI i))] := hl
  refine lv_iload_n hx hb dX1_semitone_0 rfl (lv_at hl 0 rfl) ?_
  refine lv_bipush (v := 7) hx hb dX1_semitone_1 (by decide) ?_
  refine lv_icmp_ne (tgt := 10) hx hb dX1_semitone_3 (by decide) (fun c_3 => ?_) (fun c_3 => ?_)
  · have hm7 : ¬ md = 7 := fun q => c_3 (by rw [q]; rfl)
    refine lv_iload_n hx hb dX1_semitone_10 rfl (lv_at hl 0 rfl) ?_
    refine lv_iload_n hx hb dX1_semitone_11 rfl (lv_at hl 1 rfl) ?_
    refine lv_iadd hx hb dX1_semitone_12 ?_
    rw [show (((nI md) + (nI i)) : Int32) = (nI (md + i)) from (nI_add md i)]
    refine vp_callSi ((va_runS (As := [.int (nI (md + i))]) (rest := []) ⟨hx, hb, hml, hown, hts⟩ (c_X1_major l (md + i) (by omega)) (va_cwS 1 hts gX1_semitone_X1_major rfl rfl rfl (by decide +kernel) ⟨Nat.le_of_ble_eq_true rfl, Nat.le_of_ble_eq_true rfl⟩) ⟨zT.blind, zT.call⟩ rfl rfl hl.1 rfl (lv_room (Nat.le_of_ble_eq_true rfl)) dX1_semitone_13 ⟨Nat.zero_le _, Nat.zero_le _⟩).run) (fun r_13 h_13 => ?_)
    have h_13 : r_13 = (nI (zMaj (md + i))) := h_13
    subst h_13
    refine lv_iload_n hx hb dX1_semitone_16 rfl (lv_at hl 0 rfl) ?_
    refine vp_callSi ((va_runS (As := [.int (nI md)]) (rest := [.int (nI (zMaj (md + i)))]) ⟨hx, hb, hml, hown, hts⟩ (c_X1_major l md (by omega)) (va_cwS 1 hts gX1_semitone_X1_major rfl rfl rfl (by decide +kernel) ⟨Nat.le_of_ble_eq_true rfl, Nat.le_of_ble_eq_true rfl⟩) ⟨zT.blind, zT.call⟩ rfl rfl hl.1 rfl (lv_room (Nat.le_of_ble_eq_true rfl)) dX1_semitone_17 ⟨Nat.zero_le _, Nat.zero_le _⟩).run) (fun r_17 h_17 => ?_)
    have h_17 : r_17 = (nI (zMaj md)) := h_17
    subst h_17
    refine lv_isub hx hb dX1_semitone_20 ?_
    rw [show (((nI (zMaj (md + i))) - (nI (zMaj md))) : Int32) = (nI (zMaj (md + i) - zMaj md)) from (pk_sub (zMaj_le md hm i hi))]
    exact W.iret (v := (nI (zMaj (md + i) - zMaj md))) hx hb hr (fun t ht hW => ⟨_, rfl, (by rw [zT_n hm7]), ht⟩) (fun _ h9 => nomatch h9) dX1_semitone_21
  · have hm7 : md = 7 := z_lit (by omega) (by decide) c_3
    refine lv_iload_n hx hb dX1_semitone_6 rfl (lv_at hl 1 rfl) ?_
    refine lv_goto (tgt := 21) hx hb dX1_semitone_7 (by decide) ?_
    exact W.iret (v := (nI i)) hx hb hr (fun t ht hW => ⟨_, rfl, (by rw [hm7, zT_7]), ht⟩) (fun _ h9 => nomatch h9) dX1_semitone_21

set_option maxHeartbeats 4000000 in
set_option maxRecDepth 100000 in
theorem c_X1_stepWith (l : Launch) (md k : Nat) (hm : md < 8) (hk : k < 12) : Met l yX1_stepWith wsX1_stepWith ({ frames := 2, cells := 0, slots := 0, locals := 43 }) (va_Pc [.int (nI md), .int (nI k)] (fun _ => True)) (vp_Si (fun rv => rv = zSt md k)) 0 0 (fun _ => False) := by
  refine Met.ofW (cc := cX1_stepWith) (maxL := 4) (ret := (some .int)) (by decide) rfl ?_
  intro pr e s m ag below meth cd s₁ B hml hv
  obtain ⟨rfl, -⟩ := hv
  have hx := B.exec
  have hb := B.bytes
  have hr := B.returns
  have hts := atoms_spec (ws := wsX1_stepWith) B.pre
  have hown : s.vm.findClass RX1 = some m.cls := findClass_of_methodNamed B.named
  have hlocks := B.notSynchronized
  have hl := lv_entry ([.int (nI md), .int (nI k)]) (n := 4) (Nat.le_of_ble_eq_true rfl)
  rw [lg_entry_eq]
  generalize (lg_sl ([.int (nI md), .int (nI k)]) ++ List.replicate (4 - (lg_sl ([.int (nI md), .int (nI k)])).length) Slot.unset).toArray = ls at hl ⊢
  have hl : lv_has ls 4 [(0, .int (nI md)), (1, .int (nI k))] := hl
  have hN12 := zN_12 md
  have loop : ∀ (n : Nat) (i : Nat), i ≤ zN md → zN md + 1 ≤ i + n → ∀ (ls : Array Slot), lv_has ls 4 [(2, .int (zStn md k i)), (3, .int (nI i)), (0, .int (nI md)), (1, .int (nI k))] → W pr l e (headSpec wsX1_stepWith ({ frames := 2, cells := 0, slots := 0, locals := 43 })).room s m ([.int (nI md), .int (nI k)] : List Value).toArray below meth cd s.heap [] 0 0 (MQ below (vp_Si (fun rv => rv = zSt md k)) ([.int (nI md), .int (nI k)] : List Value).toArray s 0 0 (fun _ => False)) (F0 m 4 ls []) := by
    intro n
    induction n with
    | zero =>
      intro i hi hn
      omega
    | succ n ih =>
      intro i hi hn ls hl
      refine lv_iload_n hx hb dX1_stepWith_4 rfl (lv_at hl 1 rfl) ?_
      refine lv_iload_n hx hb dX1_stepWith_5 rfl (lv_at hl 2 rfl) ?_
      refine vp_callSi ((va_runS (As := [.int (nI md)]) (rest := [.int (nI i)]) ⟨hx, hb, hml, hown, hts⟩ (c_X1_steps l md hm) (va_cwS 1 hts gX1_stepWith_X1_steps rfl rfl rfl (by decide +kernel) ⟨Nat.le_of_ble_eq_true rfl, Nat.le_of_ble_eq_true rfl⟩) ⟨zT.blind, zT.call⟩ rfl rfl hl.1 rfl (lv_room (Nat.le_of_ble_eq_true rfl)) dX1_stepWith_6 ⟨Nat.zero_le _, Nat.zero_le _⟩).run) (fun r_6 h_6 => ?_)
      have h_6 : r_6 = (nI (zN md)) := h_6
      subst h_6
      refine lv_icmp_ge (tgt := 33) hx hb dX1_stepWith_9 (by decide) (fun c_9 => ?_) (fun c_9 => ?_)
      · have hiN : i = zN md := by have := (nI_leI (by have := zN_12 md; omega) (by omega)).mp c_9; omega
        subst hiN
        refine lv_iload_n hx hb dX1_stepWith_33 rfl (lv_at hl 0 rfl) ?_
        exact W.iret (v := (zStn md k (zN md))) hx hb hr (fun t ht hW => ⟨_, rfl, rfl, ht⟩) (fun _ h9 => nomatch h9) dX1_stepWith_34
      · have hiN : i < zN md := by
          rcases Nat.lt_or_ge i (zN md) with q | q
          · exact q
          · exact absurd ((nI_leI (by omega) (by omega)).mpr q) c_9
        have hi12 : i < 12 := by have := zN_12 md; omega
        refine lv_iload_n hx hb dX1_stepWith_12 rfl (lv_at hl 2 rfl) ?_
        refine lv_iload_n hx hb dX1_stepWith_13 rfl (lv_at hl 1 rfl) ?_
        refine vp_callSi ((va_runS (As := [.int (nI md), .int (nI i)]) (rest := []) ⟨hx, hb, hml, hown, hts⟩ (c_X1_semitone l md i hm hi12) (va_cwS 2 hts gX1_stepWith_X1_semitone rfl rfl rfl (by decide +kernel) ⟨Nat.le_of_ble_eq_true rfl, Nat.le_of_ble_eq_true rfl⟩) ⟨zT.blind, zT.call⟩ rfl rfl hl.1 rfl (lv_room (Nat.le_of_ble_eq_true rfl)) dX1_stepWith_14 ⟨Nat.zero_le _, Nat.zero_le _⟩).run) (fun r_14 h_14 => ?_)
        have h_14 : r_14 = (nI (zT md i)) := h_14
        subst h_14
        refine lv_iload_n hx hb dX1_stepWith_17 rfl (lv_at hl 3 rfl) ?_
        refine lv_icmp_ne (tgt := 25) hx hb dX1_stepWith_18 (by decide) (fun c_18 => ?_) (fun c_18 => ?_)
        · refine lv_iload_n hx hb dX1_stepWith_25 rfl (lv_at hl 0 rfl) ?_
          refine lv_istore_n (lv' := [(2, .int (zStn md k i)), (3, .int (nI i)), (0, .int (nI md)), (1, .int (nI k))]) hx hb dX1_stepWith_26 rfl hl (by decide) rfl (fun ls hl => ?_)
          refine lv_iinc (v := (nI (i + 1))) (lv' := [(3, .int (nI (i + 1))), (2, .int (zStn md k i)), (0, .int (nI md)), (1, .int (nI k))]) hx hb dX1_stepWith_27 hl (k := 1) rfl (z_inc i 1) (by decide) rfl (fun ls hl => ?_)
          refine lv_goto (tgt := 4) hx hb dX1_stepWith_30 (by decide) ?_
          have hl : lv_has ls 4 [(3, .int (nI (i + 1))), (2, .int (zStn md k (i + 1))), (0, .int (nI md)), (1, .int (nI k))] := by
            rw [show ((zStn md k (i + 1)) : Int32) = (zStn md k i) from (zStn_0 (fun q => c_18 (by rw [q])))]
            exact hl
          exact ih (i + 1) (by omega) (by omega) ls (lv_sub hl [1, 0, 2, 3] rfl)
        · refine lv_iload_n hx hb dX1_stepWith_21 rfl (lv_at hl 1 rfl) ?_
          refine lv_goto (tgt := 26) hx hb dX1_stepWith_22 (by decide) ?_
          refine lv_istore_n (lv' := [(2, .int (nI i)), (3, .int (nI i)), (0, .int (nI md)), (1, .int (nI k))]) hx hb dX1_stepWith_26 rfl hl (by decide) rfl (fun ls hl => ?_)
          refine lv_iinc (v := (nI (i + 1))) (lv' := [(3, .int (nI (i + 1))), (2, .int (nI i)), (0, .int (nI md)), (1, .int (nI k))]) hx hb dX1_stepWith_27 hl (k := 1) rfl (z_inc i 1) (by decide) rfl (fun ls hl => ?_)
          refine lv_goto (tgt := 4) hx hb dX1_stepWith_30 (by decide) ?_
          have hl : lv_has ls 4 [(3, .int (nI (i + 1))), (2, .int (zStn md k (i + 1))), (0, .int (nI md)), (1, .int (nI k))] := by
            rw [show ((zStn md k (i + 1)) : Int32) = (nI i) from (zStn_1 (z_lit (by have := zT_12 md hm i hi12; omega) (by omega) c_18))]
            exact hl
          exact ih (i + 1) (by omega) (by omega) ls (lv_sub hl [1, 0, 2, 3] rfl)
  refine lv_iconst (v := (-1)) hx hb dX1_stepWith_0 (by decide) ?_
  refine lv_istore_n (lv' := [(2, .int (-1)), (0, .int (nI md)), (1, .int (nI k))]) hx hb dX1_stepWith_1 rfl hl (by decide) rfl (fun ls hl => ?_)
  refine lv_iconst (v := 0) hx hb dX1_stepWith_2 (by decide) ?_
  refine lv_istore_n (lv' := [(3, .int 0), (2, .int (-1)), (0, .int (nI md)), (1, .int (nI k))]) hx hb dX1_stepWith_3 rfl hl (by decide) rfl (fun ls hl => ?_)
  exact loop (zN md + 1) 0 (Nat.zero_le _) (by omega) ls (lv_sub hl [1, 0, 2, 3] rfl)

set_option maxHeartbeats 4000000 in
set_option maxRecDepth 100000 in
theorem c_X1_size (l : Launch) (v : Int32) : Met l yX1_size wsX1_size ({ frames := 0, cells := 0, slots := 0, locals := 0 }) (va_Pc [.int v] (fun _ => True)) (vp_Si (fun rv => rv = zAbs v)) 0 0 (fun _ => False) := by
  refine Met.ofW (cc := cX1_size) (maxL := 1) (ret := (some .int)) (by decide) rfl ?_
  intro pr e s m ag below meth cd s₁ B hml hv
  obtain ⟨rfl, -⟩ := hv
  have hx := B.exec
  have hb := B.bytes
  have hr := B.returns
  have hts := atoms_spec (ws := wsX1_size) B.pre
  have hown : s.vm.findClass RX1 = some m.cls := findClass_of_methodNamed B.named
  have hlocks := B.notSynchronized
  have hl := lv_entry ([.int v]) (n := 1) (Nat.le_of_ble_eq_true rfl)
  rw [lg_entry_eq]
  generalize (lg_sl ([.int v]) ++ List.replicate (1 - (lg_sl ([.int v])).length) Slot.unset).toArray = ls at hl ⊢
  have hl : lv_has ls 1 [(0, .int v)] := hl
  refine lv_iload_n hx hb dX1_size_0 rfl (lv_at hl 0 rfl) ?_
  refine lv_if_ge (tgt := 9) hx hb dX1_size_1 (by decide) (fun c_1 => ?_) (fun c_1 => ?_)
  · refine lv_iload_n hx hb dX1_size_9 rfl (lv_at hl 0 rfl) ?_
    exact W.iret (v := v) hx hb hr (fun t ht hW => ⟨_, rfl, zAbs_p c_1, ht⟩) (fun _ h9 => nomatch h9) dX1_size_10
  · refine lv_iload_n hx hb dX1_size_4 rfl (lv_at hl 0 rfl) ?_
    refine lv_ineg hx hb dX1_size_5 ?_
    refine lv_goto (tgt := 10) hx hb dX1_size_6 (by decide) ?_
    exact W.iret (v := (-v)) hx hb hr (fun t ht hW => ⟨_, rfl, zAbs_n c_1, ht⟩) (fun _ h9 => nomatch h9) dX1_size_10

set_option maxHeartbeats 4000000 in
set_option maxRecDepth 100000 in
theorem c_X1_thrown (l : Launch) (D : va_G) (N0 : Nat) (cA cL : ClassId) (E : va_W) (h : Nat) (d : Nat → Nat) (th : Int32) (z : S7) (c : C5) : Met l yX1_thrown wsX1_thrown ({ frames := 0, cells := 0, slots := 0, locals := 0 }) (va_Pc [.ref h] (zPre D N0 cA cL (wM h d cA (th) z c ++ E))) (vp_Si (fun rv => rv = th)) 0 0 (fun _ => False) := by
  refine Met.ofW (cc := cX1_thrown) (maxL := 1) (ret := (some .int)) (by decide) rfl ?_
  intro pr e s m ag below meth cd s₁ B hml hv
  obtain ⟨rfl, hN, hP, hD, hK, hE⟩ := hv
  have hx := B.exec
  have hb := B.bytes
  have hr := B.returns
  have hts := atoms_spec (ws := wsX1_thrown) B.pre
  have hown : s.vm.findClass RX1 = some m.cls := findClass_of_methodNamed B.named
  have hlocks := B.notSynchronized
  have hS : va_S (zA N0) s.heap s.heap [] := va_S.rf
  have hiw : ∀ w ∈ u_ws RX1 TX1 13, w ∈ wsX1_thrown := by decide +kernel
  have hl := lv_entry ([.ref h]) (n := 1) (Nat.le_of_ble_eq_true rfl)
  rw [lg_entry_eq]
  generalize (lg_sl ([.ref h]) ++ List.replicate (1 - (lg_sl ([.ref h])).length) Slot.unset).toArray = ls at hl ⊢
  have hl : lv_has ls 1 [(0, .ref h)] := hl
  refine lv_aload_n hx hb dX1_thrown_0 rfl (lv_at hl 0 rfl) ?_
  refine va_get (D := D) (ci := 1) (v := .int th) (C := RX1) (T := TX1) (N := 13) hx hb hts hiw hown hK hP 0 rfl rfl 0 (by decide) (hts (.fieldLink RX1 41 "TunedWrensModel" "thrown" "I") (by decide +kernel)) (fun _ h9 => h9) rfl dX1_thrown_1 ?_
  exact W.iret (v := th) hx hb hr (fun t ht hW => ⟨_, rfl, rfl, ht⟩) (fun _ h9 => nomatch h9) dX1_thrown_4

set_option maxHeartbeats 4000000 in
set_option maxRecDepth 100000 in
theorem c_X1_holds_0 (l : Launch) (D : va_G) (N0 : Nat) (cA cL : ClassId) (E : va_W) (h : Nat) (d : Nat → Nat) (th : Int32) (z : S7) (c : C5)  : Met l yX1_holds wsX1_holds ({ frames := 0, cells := 0, slots := 0, locals := 0 }) (va_Pc [.ref h, .int 0] (zPre D N0 cA cL (wM h d cA (th) z c ++ E))) (va_Qi (fun (rv : Int32) (_ : Unit) => rv = 1) (fun _ t => zPost D N0 (wM h d cA (0) z c ++ E) t) (zA N0)) 0 0 (zA N0) := by
  refine Met.ofW (cc := cX1_holds) (maxL := 2) (ret := (some .boolean)) (by decide) rfl ?_
  intro pr e s m ag below meth cd s₁ B hml hv
  obtain ⟨rfl, hN, hP, hD, hK, hE⟩ := hv
  have hx := B.exec
  have hb := B.bytes
  have hr := B.returns
  have hts := atoms_spec (ws := wsX1_holds) B.pre
  have hown : s.vm.findClass RX1 = some m.cls := findClass_of_methodNamed B.named
  have hlocks := B.notSynchronized
  have hS : va_S (zA N0) s.heap s.heap [] := va_S.rf
  have hiw : ∀ w ∈ u_ws RX1 TX1 13, w ∈ wsX1_holds := by decide +kernel
  have hl := lv_entry ([.ref h, .int 0]) (n := 2) (Nat.le_of_ble_eq_true rfl)
  rw [lg_entry_eq]
  generalize (lg_sl ([.ref h, .int 0]) ++ List.replicate (2 - (lg_sl ([.ref h, .int 0])).length) Slot.unset).toArray = ls at hl ⊢
  have hl : lv_has ls 2 [(0, .ref h), (1, .int 0)] := hl
  refine lv_aload_n hx hb dX1_holds_0 rfl (lv_at hl 0 rfl) ?_
  refine lv_iload_n hx hb dX1_holds_1 rfl (lv_at hl 1 rfl) ?_
  refine va_put (D := D) (ci := 1) (v := .int 0) (ty := .int) (C := RX1) (T := TX1) (N := 13) hx hb hts hiw tyX1 tyX1_ok nmX1 hown hK hP hD hS 0 rfl rfl 0 (by decide) (hts (.fieldLink RX1 41 "TunedWrensModel" "thrown" "I") (by decide +kernel)) (fun _ h9 => h9) rfl (by decide +kernel) rfl rfl (Nat.le_of_ble_eq_true rfl) dX1_holds_2 (fun H locs hP hD hS => ?_)
  have hP : va_P D vwCl (wM h d cA (0) z c ++ E) H := hP
  have hD : va_D (zA N0) (wM h d cA (0) z c ++ E) := hD
  refine lv_iload_n hx hb dX1_holds_5 rfl (lv_at hl 1 rfl) ?_
  refine lv_if_ne (tgt := 13) hx hb dX1_holds_6 (by decide) (fun c_6 => absurd c_6 (by decide)) (fun _ => ?_)
  refine lv_iconst (v := 1) hx hb dX1_holds_9 (by decide) ?_
  refine lv_goto (tgt := 14) hx hb dX1_holds_10 (by decide) ?_
  exact W.zret (v := 1) hx hb hr rfl (fun t ht hW => ⟨⟨_, (), rfl, rfl, ⟨by rw [ht]; exact hP, hD⟩⟩, hS.F ht⟩) hS.2.2 dX1_holds_14

set_option maxHeartbeats 4000000 in
set_option maxRecDepth 100000 in
theorem c_X1_holds_n (l : Launch) (D : va_G) (N0 : Nat) (cA cL : ClassId) (E : va_W) (h : Nat) (d : Nat → Nat) (th : Int32) (z : S7) (c : C5) (k : Int32) (hk : ¬ k = 0) : Met l yX1_holds wsX1_holds ({ frames := 0, cells := 0, slots := 0, locals := 0 }) (va_Pc [.ref h, .int k] (zPre D N0 cA cL (wM h d cA (th) z c ++ E))) (va_Qi (fun (rv : Int32) (_ : Unit) => rv = 0) (fun _ t => zPost D N0 (wM h d cA (k) z c ++ E) t) (zA N0)) 0 0 (zA N0) := by
  refine Met.ofW (cc := cX1_holds) (maxL := 2) (ret := (some .boolean)) (by decide) rfl ?_
  intro pr e s m ag below meth cd s₁ B hml hv
  obtain ⟨rfl, hN, hP, hD, hK, hE⟩ := hv
  have hx := B.exec
  have hb := B.bytes
  have hr := B.returns
  have hts := atoms_spec (ws := wsX1_holds) B.pre
  have hown : s.vm.findClass RX1 = some m.cls := findClass_of_methodNamed B.named
  have hlocks := B.notSynchronized
  have hS : va_S (zA N0) s.heap s.heap [] := va_S.rf
  have hiw : ∀ w ∈ u_ws RX1 TX1 13, w ∈ wsX1_holds := by decide +kernel
  have hl := lv_entry ([.ref h, .int k]) (n := 2) (Nat.le_of_ble_eq_true rfl)
  rw [lg_entry_eq]
  generalize (lg_sl ([.ref h, .int k]) ++ List.replicate (2 - (lg_sl ([.ref h, .int k])).length) Slot.unset).toArray = ls at hl ⊢
  have hl : lv_has ls 2 [(0, .ref h), (1, .int k)] := hl
  refine lv_aload_n hx hb dX1_holds_0 rfl (lv_at hl 0 rfl) ?_
  refine lv_iload_n hx hb dX1_holds_1 rfl (lv_at hl 1 rfl) ?_
  refine va_put (D := D) (ci := 1) (v := .int k) (ty := .int) (C := RX1) (T := TX1) (N := 13) hx hb hts hiw tyX1 tyX1_ok nmX1 hown hK hP hD hS 0 rfl rfl 0 (by decide) (hts (.fieldLink RX1 41 "TunedWrensModel" "thrown" "I") (by decide +kernel)) (fun _ h9 => h9) rfl (by decide +kernel) rfl rfl (Nat.le_of_ble_eq_true rfl) dX1_holds_2 (fun H locs hP hD hS => ?_)
  have hP : va_P D vwCl (wM h d cA (k) z c ++ E) H := hP
  have hD : va_D (zA N0) (wM h d cA (k) z c ++ E) := hD
  refine lv_iload_n hx hb dX1_holds_5 rfl (lv_at hl 1 rfl) ?_
  refine lv_if_ne (tgt := 13) hx hb dX1_holds_6 (by decide) (fun c_6 => ?_) (fun c_6 => ?_)
  · refine lv_iconst (v := 0) hx hb dX1_holds_13 (by decide) ?_
    exact W.zret (v := 0) hx hb hr rfl (fun t ht hW => ⟨⟨_, (), rfl, rfl, ⟨by rw [ht]; exact hP, hD⟩⟩, hS.F ht⟩) hS.2.2 dX1_holds_14
  · exact absurd c_6 hk

set_option maxHeartbeats 4000000 in
set_option maxRecDepth 100000 in
theorem c_X1_step (l : Launch) (D : va_G) (N0 : Nat) (cA cL : ClassId) (E : va_W) (h : Nat) (d : Nat → Nat) (th : Int32) (z : S7) (c : C5) (p : Int32) (hc : okC c) : Met l yX1_step wsX1_step ({ frames := 3, cells := 0, slots := 0, locals := 66 }) (va_Pc [.ref h, .int p] (zPre D N0 cA cL (wM h d cA (th) z c ++ E))) (vp_Si (fun rv => rv = zStep c p)) 0 0 (fun _ => False) := by
  refine Met.ofW (cc := cX1_step) (maxL := 2) (ret := (some .int)) (by decide) rfl ?_
  intro pr e s m ag below meth cd s₁ B hml hv
  obtain ⟨rfl, hN, hP, hD, hK, hE⟩ := hv
  have hx := B.exec
  have hb := B.bytes
  have hr := B.returns
  have hts := atoms_spec (ws := wsX1_step) B.pre
  have hown : s.vm.findClass RX1 = some m.cls := findClass_of_methodNamed B.named
  have hlocks := B.notSynchronized
  have hS : va_S (zA N0) s.heap s.heap [] := va_S.rf
  have hiw : ∀ w ∈ u_ws RX1 TX1 13, w ∈ wsX1_step := by decide +kernel
  have hl := lv_entry ([.ref h, .int p]) (n := 2) (Nat.le_of_ble_eq_true rfl)
  rw [lg_entry_eq]
  generalize (lg_sl ([.ref h, .int p]) ++ List.replicate (2 - (lg_sl ([.ref h, .int p])).length) Slot.unset).toArray = ls at hl ⊢
  have hl : lv_has ls 2 [(0, .ref h), (1, .int p)] := hl
  refine lv_iload_n hx hb dX1_step_0 rfl (lv_at hl 1 rfl) ?_
  refine vp_callSi ((va_runS (As := [.int p]) (rest := []) ⟨hx, hb, hml, hown, hts⟩ (c_X1_isPitch l p) (va_cwS 1 hts gX1_step_X1_isPitch rfl rfl rfl (by decide +kernel) ⟨Nat.le_of_ble_eq_true rfl, Nat.le_of_ble_eq_true rfl⟩) ⟨zT.blind, zT.call⟩ rfl rfl hl.1 rfl (lv_room (Nat.le_of_ble_eq_true rfl)) dX1_step_1 ⟨Nat.zero_le _, Nat.zero_le _⟩).run) (fun r_1 h_1 => ?_)
  have h_1 : r_1 = (zb (zp p)) := h_1
  subst h_1
  refine lv_if_eq (tgt := 39) hx hb dX1_step_4 (by decide) (fun c_4 => ?_) (fun c_4 => ?_)
  · refine lv_iconst (v := (-1)) hx hb dX1_step_39 (by decide) ?_
    exact W.iret (v := (-1)) hx hb hr (fun t ht hW => ⟨_, rfl, (zStep_1 (fun q => zb_f c_4 ⟨q.1, q.2.1⟩)).symm, ht⟩) (fun _ h9 => nomatch h9) dX1_step_40
  · refine lv_iload_n hx hb dX1_step_7 rfl (lv_at hl 1 rfl) ?_
    refine lv_bipush (v := 100) hx hb dX1_step_8 (by decide) ?_
    refine lv_irem hx hb dX1_step_10 (by decide) ?_
    refine lv_if_ne (tgt := 39) hx hb dX1_step_11 (by decide) (fun c_11 => ?_) (fun c_11 => ?_)
    · refine lv_iconst (v := (-1)) hx hb dX1_step_39 (by decide) ?_
      exact W.iret (v := (-1)) hx hb hr (fun t ht hW => ⟨_, rfl, (zStep_1 (fun q => c_11 q.2.2)).symm, ht⟩) (fun _ h9 => nomatch h9) dX1_step_40
    · refine lv_aload_n hx hb dX1_step_14 rfl (lv_at hl 0 rfl) ?_
      refine va_get (D := D) (ci := 1) (v := .int (nI c.2.1)) (C := RX1) (T := TX1) (N := 13) hx hb hts hiw hown hK hP 0 rfl rfl 2 (by decide) (hts (.fieldLink RX1 63 "TunedWrensModel" "mode" "I") (by decide +kernel)) (fun _ h9 => h9) rfl dX1_step_15 ?_
      refine lv_iload_n hx hb dX1_step_18 rfl (lv_at hl 1 rfl) ?_
      refine lv_bipush (v := 100) hx hb dX1_step_19 (by decide) ?_
      refine lv_idiv hx hb dX1_step_21 (by decide) ?_
      refine lv_aload_n hx hb dX1_step_22 rfl (lv_at hl 0 rfl) ?_
      refine va_get (D := D) (ci := 1) (v := .int (nI c.1)) (C := RX1) (T := TX1) (N := 13) hx hb hts hiw hown hK hP 0 rfl rfl 1 (by decide) (hts (.fieldLink RX1 66 "TunedWrensModel" "key" "I") (by decide +kernel)) (fun _ h9 => h9) rfl dX1_step_23 ?_
      refine lv_isub hx hb dX1_step_26 ?_
      refine lv_bipush (v := 12) hx hb dX1_step_27 (by decide) ?_
      refine lv_iadd hx hb dX1_step_29 ?_
      refine lv_bipush (v := 12) hx hb dX1_step_30 (by decide) ?_
      refine lv_irem hx hb dX1_step_32 (by decide) ?_
      rw [show (((((p / 100) - (nI c.1)) + 12) - (((p / 100) - (nI c.1)) + 12) / 12 * 12) : Int32) = (nI ((p.toNatClampNeg / 100 + 12 - c.1) % 12)) from (zStep_M hc (zb_t c_4))]
      refine vp_callSi ((va_runS (As := [.int (nI c.2.1), .int (nI ((p.toNatClampNeg / 100 + 12 - c.1) % 12))]) (rest := []) ⟨hx, hb, hml, hown, hts⟩ (c_X1_stepWith l c.2.1 ((p.toNatClampNeg / 100 + 12 - c.1) % 12) hc.2.1 (Nat.mod_lt _ (by decide))) (va_cwS 2 hts gX1_step_X1_stepWith rfl rfl rfl (by decide +kernel) ⟨Nat.le_of_ble_eq_true rfl, Nat.le_of_ble_eq_true rfl⟩) ⟨zT.blind, zT.call⟩ rfl rfl hl.1 rfl (lv_room (Nat.le_of_ble_eq_true rfl)) dX1_step_33 ⟨Nat.zero_le _, Nat.zero_le _⟩).run) (fun r_33 h_33 => ?_)
      have h_33 : r_33 = (zSt c.2.1 ((p.toNatClampNeg / 100 + 12 - c.1) % 12)) := h_33
      subst h_33
      refine lv_goto (tgt := 40) hx hb dX1_step_36 (by decide) ?_
      exact W.iret (v := (zSt c.2.1 ((p.toNatClampNeg / 100 + 12 - c.1) % 12))) hx hb hr (fun t ht hW => ⟨_, rfl, zStep_2 ⟨(zb_t c_4).1, (zb_t c_4).2, c_11⟩, ht⟩) (fun _ h9 => nomatch h9) dX1_step_40

set_option maxHeartbeats 4000000 in
set_option maxRecDepth 100000 in
theorem c_X1_near (l : Launch) (D : va_G) (N0 : Nat) (cA cL : ClassId) (E : va_W) (h : Nat) (d : Nat → Nat) (th : Int32) (z : S7) (c : C5) (p : Int32) (hc : okC c) : Met l yX1_near wsX1_near ({ frames := 4, cells := 0, slots := 0, locals := 87 }) (va_Pc [.ref h, .int p] (zPre D N0 cA cL (wM h d cA (th) z c ++ E))) (vp_Si (fun rv => rv = zNear c p)) 0 0 (fun _ => False) := by
  refine Met.ofW (cc := cX1_near) (maxL := 6) (ret := (some .int)) (by decide) rfl ?_
  intro pr e s m ag below meth cd s₁ B hml hv
  obtain ⟨rfl, hN, hP, hD, hK, hE⟩ := hv
  have hx := B.exec
  have hb := B.bytes
  have hr := B.returns
  have hts := atoms_spec (ws := wsX1_near) B.pre
  have hown : s.vm.findClass RX1 = some m.cls := findClass_of_methodNamed B.named
  have hlocks := B.notSynchronized
  have hS : va_S (zA N0) s.heap s.heap [] := va_S.rf
  have hl := lv_entry ([.ref h, .int p]) (n := 6) (Nat.le_of_ble_eq_true rfl)
  rw [lg_entry_eq]
  generalize (lg_sl ([.ref h, .int p]) ++ List.replicate (6 - (lg_sl ([.ref h, .int p])).length) Slot.unset).toArray = ls at hl ⊢
  have hl : lv_has ls 6 [(0, .ref h), (1, .int p)] := hl
  have loop : ∀ (n : Nat) (k : Nat), k ≤ 121 → 122 ≤ k + n → ∀ (ls : Array Slot), lv_has ls 6 [(2, .int (zNearN c p k)), (3, .int (nI (100 * k))), (0, .ref h), (1, .int p)] → W pr l e (headSpec wsX1_near ({ frames := 4, cells := 0, slots := 0, locals := 87 })).room s m ([.ref h, .int p] : List Value).toArray below meth cd s.heap [] 0 0 (MQ below (vp_Si (fun rv => rv = zNear c p)) ([.ref h, .int p] : List Value).toArray s 0 0 (fun _ => False)) (F0 m 4 ls []) := by
    intro n
    induction n with
    | zero =>
      intro k hk hn
      omega
    | succ n ih =>
      intro k hk hn ls hl
      refine lv_iload_n hx hb dX1_near_4 rfl (lv_at hl 1 rfl) ?_
      refine lv_sipush (v := 12000) hx hb dX1_near_5 (by decide) ?_
      refine lv_icmp_gt (tgt := 74) hx hb dX1_near_8 (by decide) (fun c_8 => ?_) (fun c_8 => ?_)
      · have hk1 : k = 121 := by have := (nI_ltI (a := 12000) (by decide) (by omega)).mp c_8; omega
        subst hk1
        refine lv_iload_n hx hb dX1_near_74 rfl (lv_at hl 0 rfl) ?_
        exact W.iret (v := (zNearN c p 121)) hx hb hr (fun t ht hW => ⟨_, rfl, rfl, ht⟩) (fun _ h9 => nomatch h9) dX1_near_75
      · have hk1 : k < 121 := by
          rcases Nat.lt_or_ge k 121 with q | q
          · exact q
          · exact absurd ((nI_ltI (a := 12000) (by decide) (by omega)).mpr (by omega)) c_8
        refine lv_iload_n hx hb dX1_near_11 rfl (lv_at hl 1 rfl) ?_
        refine lv_iload_n hx hb dX1_near_12 rfl (lv_at hl 3 rfl) ?_
        refine lv_icmp_ge (tgt := 22) hx hb dX1_near_13 (by decide) (fun c_13 => ?_) (fun c_13 => ?_)
        · refine lv_iload_n hx hb dX1_near_22 rfl (lv_at hl 1 rfl) ?_
          refine lv_iload_n hx hb dX1_near_23 rfl (lv_at hl 3 rfl) ?_
          refine lv_isub hx hb dX1_near_24 ?_
          rw [show (((nI (100 * k)) - p) : Int32) = (zFar (nI (100 * k)) p) from (zFar_2 c_13)]
          refine lv_istore (lv' := [(4, .int (zFar (nI (100 * k)) p)), (2, .int (zNearN c p k)), (3, .int (nI (100 * k))), (0, .ref h), (1, .int p)]) hx hb dX1_near_25 hl (by decide) rfl (fun ls hl => ?_)
          refine lv_iload_n hx hb dX1_near_27 rfl (lv_at hl 1 rfl) ?_
          refine lv_iload_n hx hb dX1_near_28 rfl (lv_at hl 4 rfl) ?_
          refine lv_icmp_ge (tgt := 38) hx hb dX1_near_29 (by decide) (fun c_29 => ?_) (fun c_29 => ?_)
          · refine lv_iload_n hx hb dX1_near_38 rfl (lv_at hl 1 rfl) ?_
            refine lv_iload_n hx hb dX1_near_39 rfl (lv_at hl 4 rfl) ?_
            refine lv_isub hx hb dX1_near_40 ?_
            rw [show (((zNearN c p k) - p) : Int32) = (zFar (zNearN c p k) p) from (zFar_2 c_29)]
            refine lv_istore (lv' := [(5, .int (zFar (zNearN c p k) p)), (4, .int (zFar (nI (100 * k)) p)), (2, .int (zNearN c p k)), (3, .int (nI (100 * k))), (0, .ref h), (1, .int p)]) hx hb dX1_near_41 hl (by decide) rfl (fun ls hl => ?_)
            refine lv_aload_n hx hb dX1_near_43 rfl (lv_at hl 4 rfl) ?_
            refine lv_iload_n hx hb dX1_near_44 rfl (lv_at hl 3 rfl) ?_
            refine vp_callSi ((va_runV (As := [.int (nI (100 * k))]) (rest := []) ⟨hx, hb, hml, hown, hts⟩ (c_X1_step l D N0 cA cL E h d (th) z c (nI (100 * k)) hc) (cwV 1 hts gX1_near_X1_step rfl rfl rfl (by decide +kernel) ⟨Nat.le_of_ble_eq_true rfl, Nat.le_of_ble_eq_true rfl⟩) ⟨zPre.blind, va_recv hK hP (ci := 1) (q0 := 0) rfl rfl, zPre.call hN hP hD hK hE hS⟩ rfl rfl hl.1 rfl (lv_room (Nat.le_of_ble_eq_true rfl)) dX1_near_45 ⟨Nat.zero_le _, Nat.zero_le _⟩).run) (fun r_45 h_45 => ?_)
            have h_45 : r_45 = (zStep c (nI (100 * k))) := h_45
            subst h_45
            refine lv_if_lt (tgt := 66) hx hb dX1_near_48 (by decide) (fun c_48 => ?_) (fun c_48 => ?_)
            · refine lv_iload_n hx hb dX1_near_66 rfl (lv_at hl 2 rfl) ?_
              refine lv_istore_n (lv' := [(2, .int (zNearN c p k)), (5, .int (zFar (zNearN c p k) p)), (4, .int (zFar (nI (100 * k)) p)), (3, .int (nI (100 * k))), (0, .ref h), (1, .int p)]) hx hb dX1_near_67 rfl hl (by decide) rfl (fun ls hl => ?_)
              refine lv_iinc (v := (nI (100 * (k + 1)))) (lv' := [(3, .int (nI (100 * (k + 1)))), (2, .int (zNearN c p k)), (5, .int (zFar (zNearN c p k) p)), (4, .int (zFar (nI (100 * k)) p)), (0, .ref h), (1, .int p)]) hx hb dX1_near_68 hl (k := 3) rfl (z_inc (100 * k) 100) (by decide) rfl (fun ls hl => ?_)
              refine lv_goto (tgt := 4) hx hb dX1_near_71 (by decide) ?_
              have hl : lv_has ls 6 [(3, .int (nI (100 * (k + 1)))), (2, .int (zNearN c p (k + 1))), (5, .int (zFar (zNearN c p k) p)), (4, .int (zFar (nI (100 * k)) p)), (0, .ref h), (1, .int p)] := by
                rw [show ((zNearN c p (k + 1)) : Int32) = (zNearN c p k) from (zNearN_0 (fun q => q.1 c_48))]
                exact hl
              exact ih (k + 1) (by omega) (by omega) ls (lv_sub hl [1, 0, 4, 5] rfl)
            · refine lv_iload_n hx hb dX1_near_51 rfl (lv_at hl 2 rfl) ?_
              refine lv_if_lt (tgt := 62) hx hb dX1_near_52 (by decide) (fun c_52 => ?_) (fun c_52 => ?_)
              · refine lv_iload_n hx hb dX1_near_62 rfl (lv_at hl 3 rfl) ?_
                refine lv_goto (tgt := 67) hx hb dX1_near_63 (by decide) ?_
                refine lv_istore_n (lv' := [(2, .int (nI (100 * k))), (5, .int (zFar (zNearN c p k) p)), (4, .int (zFar (nI (100 * k)) p)), (3, .int (nI (100 * k))), (0, .ref h), (1, .int p)]) hx hb dX1_near_67 rfl hl (by decide) rfl (fun ls hl => ?_)
                refine lv_iinc (v := (nI (100 * (k + 1)))) (lv' := [(3, .int (nI (100 * (k + 1)))), (2, .int (nI (100 * k))), (5, .int (zFar (zNearN c p k) p)), (4, .int (zFar (nI (100 * k)) p)), (0, .ref h), (1, .int p)]) hx hb dX1_near_68 hl (k := 3) rfl (z_inc (100 * k) 100) (by decide) rfl (fun ls hl => ?_)
                refine lv_goto (tgt := 4) hx hb dX1_near_71 (by decide) ?_
                have hl : lv_has ls 6 [(3, .int (nI (100 * (k + 1)))), (2, .int (zNearN c p (k + 1))), (5, .int (zFar (zNearN c p k) p)), (4, .int (zFar (nI (100 * k)) p)), (0, .ref h), (1, .int p)] := by
                  rw [show ((zNearN c p (k + 1)) : Int32) = (nI (100 * k)) from (zNearN_1 ⟨c_48, Or.inl c_52⟩)]
                  exact hl
                exact ih (k + 1) (by omega) (by omega) ls (lv_sub hl [1, 0, 4, 5] rfl)
              · refine lv_iload hx hb dX1_near_55 (lv_at hl 1 rfl) ?_
                refine lv_iload hx hb dX1_near_57 (lv_at hl 0 rfl) ?_
                refine lv_icmp_ge (tgt := 66) hx hb dX1_near_59 (by decide) (fun c_59 => ?_) (fun c_59 => ?_)
                · refine lv_iload_n hx hb dX1_near_66 rfl (lv_at hl 2 rfl) ?_
                  refine lv_istore_n (lv' := [(2, .int (zNearN c p k)), (5, .int (zFar (zNearN c p k) p)), (4, .int (zFar (nI (100 * k)) p)), (3, .int (nI (100 * k))), (0, .ref h), (1, .int p)]) hx hb dX1_near_67 rfl hl (by decide) rfl (fun ls hl => ?_)
                  refine lv_iinc (v := (nI (100 * (k + 1)))) (lv' := [(3, .int (nI (100 * (k + 1)))), (2, .int (zNearN c p k)), (5, .int (zFar (zNearN c p k) p)), (4, .int (zFar (nI (100 * k)) p)), (0, .ref h), (1, .int p)]) hx hb dX1_near_68 hl (k := 3) rfl (z_inc (100 * k) 100) (by decide) rfl (fun ls hl => ?_)
                  refine lv_goto (tgt := 4) hx hb dX1_near_71 (by decide) ?_
                  have hl : lv_has ls 6 [(3, .int (nI (100 * (k + 1)))), (2, .int (zNearN c p (k + 1))), (5, .int (zFar (zNearN c p k) p)), (4, .int (zFar (nI (100 * k)) p)), (0, .ref h), (1, .int p)] := by
                    rw [show ((zNearN c p (k + 1)) : Int32) = (zNearN c p k) from (zNearN_0 (fun q => q.2.elim c_52 (Int32.not_lt.mpr c_59)))]
                    exact hl
                  exact ih (k + 1) (by omega) (by omega) ls (lv_sub hl [1, 0, 4, 5] rfl)
                · refine lv_iload_n hx hb dX1_near_62 rfl (lv_at hl 3 rfl) ?_
                  refine lv_goto (tgt := 67) hx hb dX1_near_63 (by decide) ?_
                  refine lv_istore_n (lv' := [(2, .int (nI (100 * k))), (5, .int (zFar (zNearN c p k) p)), (4, .int (zFar (nI (100 * k)) p)), (3, .int (nI (100 * k))), (0, .ref h), (1, .int p)]) hx hb dX1_near_67 rfl hl (by decide) rfl (fun ls hl => ?_)
                  refine lv_iinc (v := (nI (100 * (k + 1)))) (lv' := [(3, .int (nI (100 * (k + 1)))), (2, .int (nI (100 * k))), (5, .int (zFar (zNearN c p k) p)), (4, .int (zFar (nI (100 * k)) p)), (0, .ref h), (1, .int p)]) hx hb dX1_near_68 hl (k := 3) rfl (z_inc (100 * k) 100) (by decide) rfl (fun ls hl => ?_)
                  refine lv_goto (tgt := 4) hx hb dX1_near_71 (by decide) ?_
                  have hl : lv_has ls 6 [(3, .int (nI (100 * (k + 1)))), (2, .int (zNearN c p (k + 1))), (5, .int (zFar (zNearN c p k) p)), (4, .int (zFar (nI (100 * k)) p)), (0, .ref h), (1, .int p)] := by
                    rw [show ((zNearN c p (k + 1)) : Int32) = (nI (100 * k)) from (zNearN_1 ⟨c_48, Or.inr (Int32.not_le.mp c_59)⟩)]
                    exact hl
                  exact ih (k + 1) (by omega) (by omega) ls (lv_sub hl [1, 0, 4, 5] rfl)
          · refine lv_iload_n hx hb dX1_near_32 rfl (lv_at hl 4 rfl) ?_
            refine lv_iload_n hx hb dX1_near_33 rfl (lv_at hl 1 rfl) ?_
            refine lv_isub hx hb dX1_near_34 ?_
            rw [show ((p - (zNearN c p k)) : Int32) = (zFar (zNearN c p k) p) from (zFar_1 c_29)]
            refine lv_goto (tgt := 41) hx hb dX1_near_35 (by decide) ?_
            refine lv_istore (lv' := [(5, .int (zFar (zNearN c p k) p)), (4, .int (zFar (nI (100 * k)) p)), (2, .int (zNearN c p k)), (3, .int (nI (100 * k))), (0, .ref h), (1, .int p)]) hx hb dX1_near_41 hl (by decide) rfl (fun ls hl => ?_)
            refine lv_aload_n hx hb dX1_near_43 rfl (lv_at hl 4 rfl) ?_
            refine lv_iload_n hx hb dX1_near_44 rfl (lv_at hl 3 rfl) ?_
            refine vp_callSi ((va_runV (As := [.int (nI (100 * k))]) (rest := []) ⟨hx, hb, hml, hown, hts⟩ (c_X1_step l D N0 cA cL E h d (th) z c (nI (100 * k)) hc) (cwV 1 hts gX1_near_X1_step rfl rfl rfl (by decide +kernel) ⟨Nat.le_of_ble_eq_true rfl, Nat.le_of_ble_eq_true rfl⟩) ⟨zPre.blind, va_recv hK hP (ci := 1) (q0 := 0) rfl rfl, zPre.call hN hP hD hK hE hS⟩ rfl rfl hl.1 rfl (lv_room (Nat.le_of_ble_eq_true rfl)) dX1_near_45 ⟨Nat.zero_le _, Nat.zero_le _⟩).run) (fun r_45 h_45 => ?_)
            have h_45 : r_45 = (zStep c (nI (100 * k))) := h_45
            subst h_45
            refine lv_if_lt (tgt := 66) hx hb dX1_near_48 (by decide) (fun c_48 => ?_) (fun c_48 => ?_)
            · refine lv_iload_n hx hb dX1_near_66 rfl (lv_at hl 2 rfl) ?_
              refine lv_istore_n (lv' := [(2, .int (zNearN c p k)), (5, .int (zFar (zNearN c p k) p)), (4, .int (zFar (nI (100 * k)) p)), (3, .int (nI (100 * k))), (0, .ref h), (1, .int p)]) hx hb dX1_near_67 rfl hl (by decide) rfl (fun ls hl => ?_)
              refine lv_iinc (v := (nI (100 * (k + 1)))) (lv' := [(3, .int (nI (100 * (k + 1)))), (2, .int (zNearN c p k)), (5, .int (zFar (zNearN c p k) p)), (4, .int (zFar (nI (100 * k)) p)), (0, .ref h), (1, .int p)]) hx hb dX1_near_68 hl (k := 3) rfl (z_inc (100 * k) 100) (by decide) rfl (fun ls hl => ?_)
              refine lv_goto (tgt := 4) hx hb dX1_near_71 (by decide) ?_
              have hl : lv_has ls 6 [(3, .int (nI (100 * (k + 1)))), (2, .int (zNearN c p (k + 1))), (5, .int (zFar (zNearN c p k) p)), (4, .int (zFar (nI (100 * k)) p)), (0, .ref h), (1, .int p)] := by
                rw [show ((zNearN c p (k + 1)) : Int32) = (zNearN c p k) from (zNearN_0 (fun q => q.1 c_48))]
                exact hl
              exact ih (k + 1) (by omega) (by omega) ls (lv_sub hl [1, 0, 4, 5] rfl)
            · refine lv_iload_n hx hb dX1_near_51 rfl (lv_at hl 2 rfl) ?_
              refine lv_if_lt (tgt := 62) hx hb dX1_near_52 (by decide) (fun c_52 => ?_) (fun c_52 => ?_)
              · refine lv_iload_n hx hb dX1_near_62 rfl (lv_at hl 3 rfl) ?_
                refine lv_goto (tgt := 67) hx hb dX1_near_63 (by decide) ?_
                refine lv_istore_n (lv' := [(2, .int (nI (100 * k))), (5, .int (zFar (zNearN c p k) p)), (4, .int (zFar (nI (100 * k)) p)), (3, .int (nI (100 * k))), (0, .ref h), (1, .int p)]) hx hb dX1_near_67 rfl hl (by decide) rfl (fun ls hl => ?_)
                refine lv_iinc (v := (nI (100 * (k + 1)))) (lv' := [(3, .int (nI (100 * (k + 1)))), (2, .int (nI (100 * k))), (5, .int (zFar (zNearN c p k) p)), (4, .int (zFar (nI (100 * k)) p)), (0, .ref h), (1, .int p)]) hx hb dX1_near_68 hl (k := 3) rfl (z_inc (100 * k) 100) (by decide) rfl (fun ls hl => ?_)
                refine lv_goto (tgt := 4) hx hb dX1_near_71 (by decide) ?_
                have hl : lv_has ls 6 [(3, .int (nI (100 * (k + 1)))), (2, .int (zNearN c p (k + 1))), (5, .int (zFar (zNearN c p k) p)), (4, .int (zFar (nI (100 * k)) p)), (0, .ref h), (1, .int p)] := by
                  rw [show ((zNearN c p (k + 1)) : Int32) = (nI (100 * k)) from (zNearN_1 ⟨c_48, Or.inl c_52⟩)]
                  exact hl
                exact ih (k + 1) (by omega) (by omega) ls (lv_sub hl [1, 0, 4, 5] rfl)
              · refine lv_iload hx hb dX1_near_55 (lv_at hl 1 rfl) ?_
                refine lv_iload hx hb dX1_near_57 (lv_at hl 0 rfl) ?_
                refine lv_icmp_ge (tgt := 66) hx hb dX1_near_59 (by decide) (fun c_59 => ?_) (fun c_59 => ?_)
                · refine lv_iload_n hx hb dX1_near_66 rfl (lv_at hl 2 rfl) ?_
                  refine lv_istore_n (lv' := [(2, .int (zNearN c p k)), (5, .int (zFar (zNearN c p k) p)), (4, .int (zFar (nI (100 * k)) p)), (3, .int (nI (100 * k))), (0, .ref h), (1, .int p)]) hx hb dX1_near_67 rfl hl (by decide) rfl (fun ls hl => ?_)
                  refine lv_iinc (v := (nI (100 * (k + 1)))) (lv' := [(3, .int (nI (100 * (k + 1)))), (2, .int (zNearN c p k)), (5, .int (zFar (zNearN c p k) p)), (4, .int (zFar (nI (100 * k)) p)), (0, .ref h), (1, .int p)]) hx hb dX1_near_68 hl (k := 3) rfl (z_inc (100 * k) 100) (by decide) rfl (fun ls hl => ?_)
                  refine lv_goto (tgt := 4) hx hb dX1_near_71 (by decide) ?_
                  have hl : lv_has ls 6 [(3, .int (nI (100 * (k + 1)))), (2, .int (zNearN c p (k + 1))), (5, .int (zFar (zNearN c p k) p)), (4, .int (zFar (nI (100 * k)) p)), (0, .ref h), (1, .int p)] := by
                    rw [show ((zNearN c p (k + 1)) : Int32) = (zNearN c p k) from (zNearN_0 (fun q => q.2.elim c_52 (Int32.not_lt.mpr c_59)))]
                    exact hl
                  exact ih (k + 1) (by omega) (by omega) ls (lv_sub hl [1, 0, 4, 5] rfl)
                · refine lv_iload_n hx hb dX1_near_62 rfl (lv_at hl 3 rfl) ?_
                  refine lv_goto (tgt := 67) hx hb dX1_near_63 (by decide) ?_
                  refine lv_istore_n (lv' := [(2, .int (nI (100 * k))), (5, .int (zFar (zNearN c p k) p)), (4, .int (zFar (nI (100 * k)) p)), (3, .int (nI (100 * k))), (0, .ref h), (1, .int p)]) hx hb dX1_near_67 rfl hl (by decide) rfl (fun ls hl => ?_)
                  refine lv_iinc (v := (nI (100 * (k + 1)))) (lv' := [(3, .int (nI (100 * (k + 1)))), (2, .int (nI (100 * k))), (5, .int (zFar (zNearN c p k) p)), (4, .int (zFar (nI (100 * k)) p)), (0, .ref h), (1, .int p)]) hx hb dX1_near_68 hl (k := 3) rfl (z_inc (100 * k) 100) (by decide) rfl (fun ls hl => ?_)
                  refine lv_goto (tgt := 4) hx hb dX1_near_71 (by decide) ?_
                  have hl : lv_has ls 6 [(3, .int (nI (100 * (k + 1)))), (2, .int (zNearN c p (k + 1))), (5, .int (zFar (zNearN c p k) p)), (4, .int (zFar (nI (100 * k)) p)), (0, .ref h), (1, .int p)] := by
                    rw [show ((zNearN c p (k + 1)) : Int32) = (nI (100 * k)) from (zNearN_1 ⟨c_48, Or.inr (Int32.not_le.mp c_59)⟩)]
                    exact hl
                  exact ih (k + 1) (by omega) (by omega) ls (lv_sub hl [1, 0, 4, 5] rfl)
        · refine lv_iload_n hx hb dX1_near_16 rfl (lv_at hl 3 rfl) ?_
          refine lv_iload_n hx hb dX1_near_17 rfl (lv_at hl 1 rfl) ?_
          refine lv_isub hx hb dX1_near_18 ?_
          rw [show ((p - (nI (100 * k))) : Int32) = (zFar (nI (100 * k)) p) from (zFar_1 c_13)]
          refine lv_goto (tgt := 25) hx hb dX1_near_19 (by decide) ?_
          refine lv_istore (lv' := [(4, .int (zFar (nI (100 * k)) p)), (2, .int (zNearN c p k)), (3, .int (nI (100 * k))), (0, .ref h), (1, .int p)]) hx hb dX1_near_25 hl (by decide) rfl (fun ls hl => ?_)
          refine lv_iload_n hx hb dX1_near_27 rfl (lv_at hl 1 rfl) ?_
          refine lv_iload_n hx hb dX1_near_28 rfl (lv_at hl 4 rfl) ?_
          refine lv_icmp_ge (tgt := 38) hx hb dX1_near_29 (by decide) (fun c_29 => ?_) (fun c_29 => ?_)
          · refine lv_iload_n hx hb dX1_near_38 rfl (lv_at hl 1 rfl) ?_
            refine lv_iload_n hx hb dX1_near_39 rfl (lv_at hl 4 rfl) ?_
            refine lv_isub hx hb dX1_near_40 ?_
            rw [show (((zNearN c p k) - p) : Int32) = (zFar (zNearN c p k) p) from (zFar_2 c_29)]
            refine lv_istore (lv' := [(5, .int (zFar (zNearN c p k) p)), (4, .int (zFar (nI (100 * k)) p)), (2, .int (zNearN c p k)), (3, .int (nI (100 * k))), (0, .ref h), (1, .int p)]) hx hb dX1_near_41 hl (by decide) rfl (fun ls hl => ?_)
            refine lv_aload_n hx hb dX1_near_43 rfl (lv_at hl 4 rfl) ?_
            refine lv_iload_n hx hb dX1_near_44 rfl (lv_at hl 3 rfl) ?_
            refine vp_callSi ((va_runV (As := [.int (nI (100 * k))]) (rest := []) ⟨hx, hb, hml, hown, hts⟩ (c_X1_step l D N0 cA cL E h d (th) z c (nI (100 * k)) hc) (cwV 1 hts gX1_near_X1_step rfl rfl rfl (by decide +kernel) ⟨Nat.le_of_ble_eq_true rfl, Nat.le_of_ble_eq_true rfl⟩) ⟨zPre.blind, va_recv hK hP (ci := 1) (q0 := 0) rfl rfl, zPre.call hN hP hD hK hE hS⟩ rfl rfl hl.1 rfl (lv_room (Nat.le_of_ble_eq_true rfl)) dX1_near_45 ⟨Nat.zero_le _, Nat.zero_le _⟩).run) (fun r_45 h_45 => ?_)
            have h_45 : r_45 = (zStep c (nI (100 * k))) := h_45
            subst h_45
            refine lv_if_lt (tgt := 66) hx hb dX1_near_48 (by decide) (fun c_48 => ?_) (fun c_48 => ?_)
            · refine lv_iload_n hx hb dX1_near_66 rfl (lv_at hl 2 rfl) ?_
              refine lv_istore_n (lv' := [(2, .int (zNearN c p k)), (5, .int (zFar (zNearN c p k) p)), (4, .int (zFar (nI (100 * k)) p)), (3, .int (nI (100 * k))), (0, .ref h), (1, .int p)]) hx hb dX1_near_67 rfl hl (by decide) rfl (fun ls hl => ?_)
              refine lv_iinc (v := (nI (100 * (k + 1)))) (lv' := [(3, .int (nI (100 * (k + 1)))), (2, .int (zNearN c p k)), (5, .int (zFar (zNearN c p k) p)), (4, .int (zFar (nI (100 * k)) p)), (0, .ref h), (1, .int p)]) hx hb dX1_near_68 hl (k := 3) rfl (z_inc (100 * k) 100) (by decide) rfl (fun ls hl => ?_)
              refine lv_goto (tgt := 4) hx hb dX1_near_71 (by decide) ?_
              have hl : lv_has ls 6 [(3, .int (nI (100 * (k + 1)))), (2, .int (zNearN c p (k + 1))), (5, .int (zFar (zNearN c p k) p)), (4, .int (zFar (nI (100 * k)) p)), (0, .ref h), (1, .int p)] := by
                rw [show ((zNearN c p (k + 1)) : Int32) = (zNearN c p k) from (zNearN_0 (fun q => q.1 c_48))]
                exact hl
              exact ih (k + 1) (by omega) (by omega) ls (lv_sub hl [1, 0, 4, 5] rfl)
            · refine lv_iload_n hx hb dX1_near_51 rfl (lv_at hl 2 rfl) ?_
              refine lv_if_lt (tgt := 62) hx hb dX1_near_52 (by decide) (fun c_52 => ?_) (fun c_52 => ?_)
              · refine lv_iload_n hx hb dX1_near_62 rfl (lv_at hl 3 rfl) ?_
                refine lv_goto (tgt := 67) hx hb dX1_near_63 (by decide) ?_
                refine lv_istore_n (lv' := [(2, .int (nI (100 * k))), (5, .int (zFar (zNearN c p k) p)), (4, .int (zFar (nI (100 * k)) p)), (3, .int (nI (100 * k))), (0, .ref h), (1, .int p)]) hx hb dX1_near_67 rfl hl (by decide) rfl (fun ls hl => ?_)
                refine lv_iinc (v := (nI (100 * (k + 1)))) (lv' := [(3, .int (nI (100 * (k + 1)))), (2, .int (nI (100 * k))), (5, .int (zFar (zNearN c p k) p)), (4, .int (zFar (nI (100 * k)) p)), (0, .ref h), (1, .int p)]) hx hb dX1_near_68 hl (k := 3) rfl (z_inc (100 * k) 100) (by decide) rfl (fun ls hl => ?_)
                refine lv_goto (tgt := 4) hx hb dX1_near_71 (by decide) ?_
                have hl : lv_has ls 6 [(3, .int (nI (100 * (k + 1)))), (2, .int (zNearN c p (k + 1))), (5, .int (zFar (zNearN c p k) p)), (4, .int (zFar (nI (100 * k)) p)), (0, .ref h), (1, .int p)] := by
                  rw [show ((zNearN c p (k + 1)) : Int32) = (nI (100 * k)) from (zNearN_1 ⟨c_48, Or.inl c_52⟩)]
                  exact hl
                exact ih (k + 1) (by omega) (by omega) ls (lv_sub hl [1, 0, 4, 5] rfl)
              · refine lv_iload hx hb dX1_near_55 (lv_at hl 1 rfl) ?_
                refine lv_iload hx hb dX1_near_57 (lv_at hl 0 rfl) ?_
                refine lv_icmp_ge (tgt := 66) hx hb dX1_near_59 (by decide) (fun c_59 => ?_) (fun c_59 => ?_)
                · refine lv_iload_n hx hb dX1_near_66 rfl (lv_at hl 2 rfl) ?_
                  refine lv_istore_n (lv' := [(2, .int (zNearN c p k)), (5, .int (zFar (zNearN c p k) p)), (4, .int (zFar (nI (100 * k)) p)), (3, .int (nI (100 * k))), (0, .ref h), (1, .int p)]) hx hb dX1_near_67 rfl hl (by decide) rfl (fun ls hl => ?_)
                  refine lv_iinc (v := (nI (100 * (k + 1)))) (lv' := [(3, .int (nI (100 * (k + 1)))), (2, .int (zNearN c p k)), (5, .int (zFar (zNearN c p k) p)), (4, .int (zFar (nI (100 * k)) p)), (0, .ref h), (1, .int p)]) hx hb dX1_near_68 hl (k := 3) rfl (z_inc (100 * k) 100) (by decide) rfl (fun ls hl => ?_)
                  refine lv_goto (tgt := 4) hx hb dX1_near_71 (by decide) ?_
                  have hl : lv_has ls 6 [(3, .int (nI (100 * (k + 1)))), (2, .int (zNearN c p (k + 1))), (5, .int (zFar (zNearN c p k) p)), (4, .int (zFar (nI (100 * k)) p)), (0, .ref h), (1, .int p)] := by
                    rw [show ((zNearN c p (k + 1)) : Int32) = (zNearN c p k) from (zNearN_0 (fun q => q.2.elim c_52 (Int32.not_lt.mpr c_59)))]
                    exact hl
                  exact ih (k + 1) (by omega) (by omega) ls (lv_sub hl [1, 0, 4, 5] rfl)
                · refine lv_iload_n hx hb dX1_near_62 rfl (lv_at hl 3 rfl) ?_
                  refine lv_goto (tgt := 67) hx hb dX1_near_63 (by decide) ?_
                  refine lv_istore_n (lv' := [(2, .int (nI (100 * k))), (5, .int (zFar (zNearN c p k) p)), (4, .int (zFar (nI (100 * k)) p)), (3, .int (nI (100 * k))), (0, .ref h), (1, .int p)]) hx hb dX1_near_67 rfl hl (by decide) rfl (fun ls hl => ?_)
                  refine lv_iinc (v := (nI (100 * (k + 1)))) (lv' := [(3, .int (nI (100 * (k + 1)))), (2, .int (nI (100 * k))), (5, .int (zFar (zNearN c p k) p)), (4, .int (zFar (nI (100 * k)) p)), (0, .ref h), (1, .int p)]) hx hb dX1_near_68 hl (k := 3) rfl (z_inc (100 * k) 100) (by decide) rfl (fun ls hl => ?_)
                  refine lv_goto (tgt := 4) hx hb dX1_near_71 (by decide) ?_
                  have hl : lv_has ls 6 [(3, .int (nI (100 * (k + 1)))), (2, .int (zNearN c p (k + 1))), (5, .int (zFar (zNearN c p k) p)), (4, .int (zFar (nI (100 * k)) p)), (0, .ref h), (1, .int p)] := by
                    rw [show ((zNearN c p (k + 1)) : Int32) = (nI (100 * k)) from (zNearN_1 ⟨c_48, Or.inr (Int32.not_le.mp c_59)⟩)]
                    exact hl
                  exact ih (k + 1) (by omega) (by omega) ls (lv_sub hl [1, 0, 4, 5] rfl)
          · refine lv_iload_n hx hb dX1_near_32 rfl (lv_at hl 4 rfl) ?_
            refine lv_iload_n hx hb dX1_near_33 rfl (lv_at hl 1 rfl) ?_
            refine lv_isub hx hb dX1_near_34 ?_
            rw [show ((p - (zNearN c p k)) : Int32) = (zFar (zNearN c p k) p) from (zFar_1 c_29)]
            refine lv_goto (tgt := 41) hx hb dX1_near_35 (by decide) ?_
            refine lv_istore (lv' := [(5, .int (zFar (zNearN c p k) p)), (4, .int (zFar (nI (100 * k)) p)), (2, .int (zNearN c p k)), (3, .int (nI (100 * k))), (0, .ref h), (1, .int p)]) hx hb dX1_near_41 hl (by decide) rfl (fun ls hl => ?_)
            refine lv_aload_n hx hb dX1_near_43 rfl (lv_at hl 4 rfl) ?_
            refine lv_iload_n hx hb dX1_near_44 rfl (lv_at hl 3 rfl) ?_
            refine vp_callSi ((va_runV (As := [.int (nI (100 * k))]) (rest := []) ⟨hx, hb, hml, hown, hts⟩ (c_X1_step l D N0 cA cL E h d (th) z c (nI (100 * k)) hc) (cwV 1 hts gX1_near_X1_step rfl rfl rfl (by decide +kernel) ⟨Nat.le_of_ble_eq_true rfl, Nat.le_of_ble_eq_true rfl⟩) ⟨zPre.blind, va_recv hK hP (ci := 1) (q0 := 0) rfl rfl, zPre.call hN hP hD hK hE hS⟩ rfl rfl hl.1 rfl (lv_room (Nat.le_of_ble_eq_true rfl)) dX1_near_45 ⟨Nat.zero_le _, Nat.zero_le _⟩).run) (fun r_45 h_45 => ?_)
            have h_45 : r_45 = (zStep c (nI (100 * k))) := h_45
            subst h_45
            refine lv_if_lt (tgt := 66) hx hb dX1_near_48 (by decide) (fun c_48 => ?_) (fun c_48 => ?_)
            · refine lv_iload_n hx hb dX1_near_66 rfl (lv_at hl 2 rfl) ?_
              refine lv_istore_n (lv' := [(2, .int (zNearN c p k)), (5, .int (zFar (zNearN c p k) p)), (4, .int (zFar (nI (100 * k)) p)), (3, .int (nI (100 * k))), (0, .ref h), (1, .int p)]) hx hb dX1_near_67 rfl hl (by decide) rfl (fun ls hl => ?_)
              refine lv_iinc (v := (nI (100 * (k + 1)))) (lv' := [(3, .int (nI (100 * (k + 1)))), (2, .int (zNearN c p k)), (5, .int (zFar (zNearN c p k) p)), (4, .int (zFar (nI (100 * k)) p)), (0, .ref h), (1, .int p)]) hx hb dX1_near_68 hl (k := 3) rfl (z_inc (100 * k) 100) (by decide) rfl (fun ls hl => ?_)
              refine lv_goto (tgt := 4) hx hb dX1_near_71 (by decide) ?_
              have hl : lv_has ls 6 [(3, .int (nI (100 * (k + 1)))), (2, .int (zNearN c p (k + 1))), (5, .int (zFar (zNearN c p k) p)), (4, .int (zFar (nI (100 * k)) p)), (0, .ref h), (1, .int p)] := by
                rw [show ((zNearN c p (k + 1)) : Int32) = (zNearN c p k) from (zNearN_0 (fun q => q.1 c_48))]
                exact hl
              exact ih (k + 1) (by omega) (by omega) ls (lv_sub hl [1, 0, 4, 5] rfl)
            · refine lv_iload_n hx hb dX1_near_51 rfl (lv_at hl 2 rfl) ?_
              refine lv_if_lt (tgt := 62) hx hb dX1_near_52 (by decide) (fun c_52 => ?_) (fun c_52 => ?_)
              · refine lv_iload_n hx hb dX1_near_62 rfl (lv_at hl 3 rfl) ?_
                refine lv_goto (tgt := 67) hx hb dX1_near_63 (by decide) ?_
                refine lv_istore_n (lv' := [(2, .int (nI (100 * k))), (5, .int (zFar (zNearN c p k) p)), (4, .int (zFar (nI (100 * k)) p)), (3, .int (nI (100 * k))), (0, .ref h), (1, .int p)]) hx hb dX1_near_67 rfl hl (by decide) rfl (fun ls hl => ?_)
                refine lv_iinc (v := (nI (100 * (k + 1)))) (lv' := [(3, .int (nI (100 * (k + 1)))), (2, .int (nI (100 * k))), (5, .int (zFar (zNearN c p k) p)), (4, .int (zFar (nI (100 * k)) p)), (0, .ref h), (1, .int p)]) hx hb dX1_near_68 hl (k := 3) rfl (z_inc (100 * k) 100) (by decide) rfl (fun ls hl => ?_)
                refine lv_goto (tgt := 4) hx hb dX1_near_71 (by decide) ?_
                have hl : lv_has ls 6 [(3, .int (nI (100 * (k + 1)))), (2, .int (zNearN c p (k + 1))), (5, .int (zFar (zNearN c p k) p)), (4, .int (zFar (nI (100 * k)) p)), (0, .ref h), (1, .int p)] := by
                  rw [show ((zNearN c p (k + 1)) : Int32) = (nI (100 * k)) from (zNearN_1 ⟨c_48, Or.inl c_52⟩)]
                  exact hl
                exact ih (k + 1) (by omega) (by omega) ls (lv_sub hl [1, 0, 4, 5] rfl)
              · refine lv_iload hx hb dX1_near_55 (lv_at hl 1 rfl) ?_
                refine lv_iload hx hb dX1_near_57 (lv_at hl 0 rfl) ?_
                refine lv_icmp_ge (tgt := 66) hx hb dX1_near_59 (by decide) (fun c_59 => ?_) (fun c_59 => ?_)
                · refine lv_iload_n hx hb dX1_near_66 rfl (lv_at hl 2 rfl) ?_
                  refine lv_istore_n (lv' := [(2, .int (zNearN c p k)), (5, .int (zFar (zNearN c p k) p)), (4, .int (zFar (nI (100 * k)) p)), (3, .int (nI (100 * k))), (0, .ref h), (1, .int p)]) hx hb dX1_near_67 rfl hl (by decide) rfl (fun ls hl => ?_)
                  refine lv_iinc (v := (nI (100 * (k + 1)))) (lv' := [(3, .int (nI (100 * (k + 1)))), (2, .int (zNearN c p k)), (5, .int (zFar (zNearN c p k) p)), (4, .int (zFar (nI (100 * k)) p)), (0, .ref h), (1, .int p)]) hx hb dX1_near_68 hl (k := 3) rfl (z_inc (100 * k) 100) (by decide) rfl (fun ls hl => ?_)
                  refine lv_goto (tgt := 4) hx hb dX1_near_71 (by decide) ?_
                  have hl : lv_has ls 6 [(3, .int (nI (100 * (k + 1)))), (2, .int (zNearN c p (k + 1))), (5, .int (zFar (zNearN c p k) p)), (4, .int (zFar (nI (100 * k)) p)), (0, .ref h), (1, .int p)] := by
                    rw [show ((zNearN c p (k + 1)) : Int32) = (zNearN c p k) from (zNearN_0 (fun q => q.2.elim c_52 (Int32.not_lt.mpr c_59)))]
                    exact hl
                  exact ih (k + 1) (by omega) (by omega) ls (lv_sub hl [1, 0, 4, 5] rfl)
                · refine lv_iload_n hx hb dX1_near_62 rfl (lv_at hl 3 rfl) ?_
                  refine lv_goto (tgt := 67) hx hb dX1_near_63 (by decide) ?_
                  refine lv_istore_n (lv' := [(2, .int (nI (100 * k))), (5, .int (zFar (zNearN c p k) p)), (4, .int (zFar (nI (100 * k)) p)), (3, .int (nI (100 * k))), (0, .ref h), (1, .int p)]) hx hb dX1_near_67 rfl hl (by decide) rfl (fun ls hl => ?_)
                  refine lv_iinc (v := (nI (100 * (k + 1)))) (lv' := [(3, .int (nI (100 * (k + 1)))), (2, .int (nI (100 * k))), (5, .int (zFar (zNearN c p k) p)), (4, .int (zFar (nI (100 * k)) p)), (0, .ref h), (1, .int p)]) hx hb dX1_near_68 hl (k := 3) rfl (z_inc (100 * k) 100) (by decide) rfl (fun ls hl => ?_)
                  refine lv_goto (tgt := 4) hx hb dX1_near_71 (by decide) ?_
                  have hl : lv_has ls 6 [(3, .int (nI (100 * (k + 1)))), (2, .int (zNearN c p (k + 1))), (5, .int (zFar (zNearN c p k) p)), (4, .int (zFar (nI (100 * k)) p)), (0, .ref h), (1, .int p)] := by
                    rw [show ((zNearN c p (k + 1)) : Int32) = (nI (100 * k)) from (zNearN_1 ⟨c_48, Or.inr (Int32.not_le.mp c_59)⟩)]
                    exact hl
                  exact ih (k + 1) (by omega) (by omega) ls (lv_sub hl [1, 0, 4, 5] rfl)
  refine lv_iconst (v := (-1)) hx hb dX1_near_0 (by decide) ?_
  refine lv_istore_n (lv' := [(2, .int (-1)), (0, .ref h), (1, .int p)]) hx hb dX1_near_1 rfl hl (by decide) rfl (fun ls hl => ?_)
  refine lv_iconst (v := 0) hx hb dX1_near_2 (by decide) ?_
  refine lv_istore_n (lv' := [(3, .int 0), (2, .int (-1)), (0, .ref h), (1, .int p)]) hx hb dX1_near_3 rfl hl (by decide) rfl (fun ls hl => ?_)
  exact loop 122 0 (by decide) (by decide) ls (lv_sub hl [1, 0, 2, 3] rfl)

set_option maxHeartbeats 4000000 in
set_option maxRecDepth 100000 in
theorem c_X1_inside (l : Launch) (D : va_G) (N0 : Nat) (cA cL : ClassId) (E : va_W) (h : Nat) (d : Nat → Nat) (th : Int32) (z : S7) (c : C5) (ky md : Nat) (hk : ky < 12) (hm : md < 8) : Met l yX1_inside wsX1_inside ({ frames := 3, cells := 0, slots := 0, locals := 66 }) (va_Pc [.ref h, .int (nI ky), .int (nI md)] (zPre D N0 cA cL (wM h d cA (th) z c ++ E))) (vp_Si (fun rv => rv = zW md ky z.2.2.2.2.2.2)) 0 0 (fun _ => False) := by
  refine Met.ofW (cc := cX1_inside) (maxL := 5) (ret := (some .int)) (by decide) rfl ?_
  intro pr e s m ag below meth cd s₁ B hml hv
  obtain ⟨rfl, hN, hP, hD, hK, hE⟩ := hv
  have hx := B.exec
  have hb := B.bytes
  have hr := B.returns
  have hts := atoms_spec (ws := wsX1_inside) B.pre
  have hown : s.vm.findClass RX1 = some m.cls := findClass_of_methodNamed B.named
  have hlocks := B.notSynchronized
  have hS : va_S (zA N0) s.heap s.heap [] := va_S.rf
  have hiw : ∀ w ∈ u_ws RX1 TX1 13, w ∈ wsX1_inside := by decide +kernel
  have hl := lv_entry ([.ref h, .int (nI ky), .int (nI md)]) (n := 5) (Nat.le_of_ble_eq_true rfl)
  rw [lg_entry_eq]
  generalize (lg_sl ([.ref h, .int (nI ky), .int (nI md)]) ++ List.replicate (5 - (lg_sl ([.ref h, .int (nI ky), .int (nI md)])).length) Slot.unset).toArray = ls at hl ⊢
  have hl : lv_has ls 5 [(0, .ref h), (1, .int (nI ky)), (2, .int (nI md))] := hl
  have loop : ∀ (n : Nat) (i : Nat), i ≤ 12 → 13 ≤ i + n → ∀ (ls : Array Slot), lv_has ls 5 [(3, .int (zWn md ky z.2.2.2.2.2.2 i)), (4, .int (nI i)), (0, .ref h), (1, .int (nI ky)), (2, .int (nI md))] → W pr l e (headSpec wsX1_inside ({ frames := 3, cells := 0, slots := 0, locals := 66 })).room s m ([.ref h, .int (nI ky), .int (nI md)] : List Value).toArray below meth cd s.heap [] 0 0 (MQ below (vp_Si (fun rv => rv = zW md ky z.2.2.2.2.2.2)) ([.ref h, .int (nI ky), .int (nI md)] : List Value).toArray s 0 0 (fun _ => False)) (F0 m 5 ls []) := by
    intro n
    induction n with
    | zero =>
      intro i hi hn
      omega
    | succ n ih =>
      intro i hi hn ls hl
      refine lv_iload hx hb dX1_inside_5 (lv_at hl 1 rfl) ?_
      refine lv_bipush (v := 12) hx hb dX1_inside_7 (by decide) ?_
      refine lv_icmp_ge (tgt := 49) hx hb dX1_inside_9 (by decide) (fun c_9 => ?_) (fun c_9 => ?_)
      · have hi12 : i = 12 := by have := (nI_leI (a := 12) (by decide) (by omega)).mp c_9; omega
        subst hi12
        refine lv_iload_n hx hb dX1_inside_49 rfl (lv_at hl 0 rfl) ?_
        exact W.iret (v := (zWn md ky z.2.2.2.2.2.2 12)) hx hb hr (fun t ht hW => ⟨_, rfl, rfl, ht⟩) (fun _ h9 => nomatch h9) dX1_inside_50
      · have hi12 : i < 12 := by
          rcases Nat.lt_or_ge i 12 with q | q
          · exact q
          · exact absurd ((nI_leI (a := 12) (by decide) (by omega)).mpr q) c_9
        refine lv_iload_n hx hb dX1_inside_12 rfl (lv_at hl 0 rfl) ?_
        refine lv_iload_n hx hb dX1_inside_13 rfl (lv_at hl 4 rfl) ?_
        refine lv_iload hx hb dX1_inside_14 (lv_at hl 1 rfl) ?_
        refine lv_iload_n hx hb dX1_inside_16 rfl (lv_at hl 3 rfl) ?_
        refine lv_isub hx hb dX1_inside_17 ?_
        refine lv_bipush (v := 12) hx hb dX1_inside_18 (by decide) ?_
        refine lv_iadd hx hb dX1_inside_20 ?_
        refine lv_bipush (v := 12) hx hb dX1_inside_21 (by decide) ?_
        refine lv_irem hx hb dX1_inside_23 (by decide) ?_
        rw [show (((((nI i) - (nI ky)) + 12) - (((nI i) - (nI ky)) + 12) / 12 * 12) : Int32) = (nI ((i + 12 - ky) % 12)) from (z_ix12 (by omega) hk)]
        refine vp_callSi ((va_runS (As := [.int (nI md), .int (nI ((i + 12 - ky) % 12))]) (rest := [.int (zWn md ky z.2.2.2.2.2.2 i)]) ⟨hx, hb, hml, hown, hts⟩ (c_X1_stepWith l md ((i + 12 - ky) % 12) hm (Nat.mod_lt _ (by decide))) (va_cwS 2 hts gX1_inside_X1_stepWith rfl rfl rfl (by decide +kernel) ⟨Nat.le_of_ble_eq_true rfl, Nat.le_of_ble_eq_true rfl⟩) ⟨zT.blind, zT.call⟩ rfl rfl hl.1 rfl (lv_room (Nat.le_of_ble_eq_true rfl)) dX1_inside_24 ⟨Nat.zero_le _, Nat.zero_le _⟩).run) (fun r_24 h_24 => ?_)
        have h_24 : r_24 = (zSt md ((i + 12 - ky) % 12)) := h_24
        subst h_24
        refine lv_if_lt (tgt := 40) hx hb dX1_inside_27 (by decide) (fun c_27 => ?_) (fun c_27 => ?_)
        · refine lv_iconst (v := 0) hx hb dX1_inside_40 (by decide) ?_
          refine lv_iadd hx hb dX1_inside_41 ?_
          refine lv_istore_n (lv' := [(3, .int ((zWn md ky z.2.2.2.2.2.2 i) + 0)), (4, .int (nI i)), (0, .ref h), (1, .int (nI ky)), (2, .int (nI md))]) hx hb dX1_inside_42 rfl hl (by decide) rfl (fun ls hl => ?_)
          refine lv_iinc (v := (nI (i + 1))) (lv' := [(4, .int (nI (i + 1))), (3, .int ((zWn md ky z.2.2.2.2.2.2 i) + 0)), (0, .ref h), (1, .int (nI ky)), (2, .int (nI md))]) hx hb dX1_inside_43 hl (k := 1) rfl (z_inc i 1) (by decide) rfl (fun ls hl => ?_)
          refine lv_goto (tgt := 5) hx hb dX1_inside_46 (by decide) ?_
          have hl : lv_has ls 5 [(4, .int (nI (i + 1))), (3, .int (zWn md ky z.2.2.2.2.2.2 (i + 1))), (0, .ref h), (1, .int (nI ky)), (2, .int (nI md))] := by
            rw [show ((zWn md ky z.2.2.2.2.2.2 (i + 1)) : Int32) = ((zWn md ky z.2.2.2.2.2.2 i) + 0) from (by rw [zWn_0 c_27, Int32.add_zero])]
            exact hl
          exact ih (i + 1) (by omega) (by omega) ls (lv_sub hl [1, 0, 2, 3, 4] rfl)
        · refine lv_aload_n hx hb dX1_inside_30 rfl (lv_at hl 2 rfl) ?_
          refine va_get (D := D) (ci := 1) (v := .ref (d 6)) (C := RX1) (T := TX1) (N := 13) hx hb hts hiw hown hK hP 0 rfl rfl 12 (by decide) (hts (.fieldLink RX1 38 "TunedWrensModel" "semitones" "[I") (by decide +kernel)) (fun _ h9 => h9) rfl dX1_inside_31 ?_
          refine lv_iload hx hb dX1_inside_34 (lv_at hl 1 rfl) ?_
          refine va_iald hx hb hK hP 7 0 rfl rfl (vp_in_nI hi12 (by decide)) dX1_inside_36 ?_
          refine lv_goto (tgt := 41) hx hb dX1_inside_37 (by decide) ?_
          refine lv_iadd hx hb dX1_inside_41 ?_
          refine lv_istore_n (lv' := [(3, .int ((zWn md ky z.2.2.2.2.2.2 i) + (z.2.2.2.2.2.2 (nI i).toNatClampNeg))), (4, .int (nI i)), (0, .ref h), (1, .int (nI ky)), (2, .int (nI md))]) hx hb dX1_inside_42 rfl hl (by decide) rfl (fun ls hl => ?_)
          refine lv_iinc (v := (nI (i + 1))) (lv' := [(4, .int (nI (i + 1))), (3, .int ((zWn md ky z.2.2.2.2.2.2 i) + (z.2.2.2.2.2.2 (nI i).toNatClampNeg))), (0, .ref h), (1, .int (nI ky)), (2, .int (nI md))]) hx hb dX1_inside_43 hl (k := 1) rfl (z_inc i 1) (by decide) rfl (fun ls hl => ?_)
          refine lv_goto (tgt := 5) hx hb dX1_inside_46 (by decide) ?_
          have hl : lv_has ls 5 [(4, .int (nI (i + 1))), (3, .int (zWn md ky z.2.2.2.2.2.2 (i + 1))), (0, .ref h), (1, .int (nI ky)), (2, .int (nI md))] := by
            rw [show ((zWn md ky z.2.2.2.2.2.2 (i + 1)) : Int32) = ((zWn md ky z.2.2.2.2.2.2 i) + (z.2.2.2.2.2.2 (nI i).toNatClampNeg)) from (by rw [nI_clamp (by omega)]; exact zWn_1 c_27)]
            exact hl
          exact ih (i + 1) (by omega) (by omega) ls (lv_sub hl [1, 0, 2, 3, 4] rfl)
  refine lv_iconst (v := 0) hx hb dX1_inside_0 (by decide) ?_
  refine lv_istore_n (lv' := [(3, .int 0), (0, .ref h), (1, .int (nI ky)), (2, .int (nI md))]) hx hb dX1_inside_1 rfl hl (by decide) rfl (fun ls hl => ?_)
  refine lv_iconst (v := 0) hx hb dX1_inside_2 (by decide) ?_
  refine lv_istore (lv' := [(4, .int 0), (3, .int 0), (0, .ref h), (1, .int (nI ky)), (2, .int (nI md))]) hx hb dX1_inside_3 hl (by decide) rfl (fun ls hl => ?_)
  exact loop 13 0 (by decide) (by decide) ls (lv_sub hl [1, 0, 2, 3, 4] rfl)
