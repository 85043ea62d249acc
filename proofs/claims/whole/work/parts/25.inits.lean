def zI : S7 := (upd (upd (upd (upd (fun _ => 0) (0 : Int32).toNatClampNeg (-1)) (1 : Int32).toNatClampNeg (-1)) (2 : Int32).toNatClampNeg (-1)) (3 : Int32).toNatClampNeg (-1), fun _ => 0, fun _ => 0, fun _ => 0, fun _ => 0, fun _ => 0, fun _ => 0)
def cI : C5 := (0, 0, 100, 60, 400)
theorem cI_ok : okC cI := ⟨by decide, by decide, by decide⟩
theorem zI_ok : okZ zI := by
  refine zu_ok (zu_ok (zu_ok (zu_ok (fun _ => Or.inr ⟨by decide, by decide⟩) (Or.inl rfl)) (Or.inl rfl)) (Or.inl rfl)) (Or.inl rfl)
def zAd (a0 a1 a2 a3 a4 a5 a6 : Nat) : Nat → Nat
  | 0 => a0
  | 1 => a1
  | 2 => a2
  | 3 => a3
  | 4 => a4
  | 5 => a5
  | _ => a6
theorem zcA {D : va_G} {cl : List vw_C} {tys : List (ClassId × FieldType)} {U : State} (h : va_K D cl tys U) {i j : Nat} {a b : ClassId} (h1 : tys[i]? = some (a, .int)) (h2 : tys[j]? = some (b, .int)) : b = a := by
  have e1 : U.vm.findClass _ = some a := (h.2 i _ h1).2
  have e2 : U.vm.findClass _ = some b := (h.2 j _ h2).2
  exact (Option.some.inj (e1.symm.trans e2)).symm
def zPre0 (D : va_G) (N0 : Nat) (tys : List (ClassId × FieldType)) (W : va_W) (U : State) : Prop := N0 ≤ U.heap.size ∧ va_P D vwCl W U.heap ∧ va_D (zA N0) W ∧ va_K D vwCl tys U
theorem zPre0.blind {D : va_G} {N0 : Nat} {tys : List (ClassId × FieldType)} {W : va_W} {av : List Value} : FrameBlind (va_Pc av (zPre0 D N0 tys W)) := by
  intro a U g mk h
  obtain ⟨h0, h1, h2, h3, h4⟩ := h
  exact ⟨h0, h1, h2, h3, va_K.moved (u := U) (U := U.calling g mk a) (Vm.Alike.refl U.vm) h4⟩

set_option maxHeartbeats 4000000 in
set_option maxRecDepth 100000 in
theorem c_X0_init (l : Launch) (D : va_G) (N0 h : Nat) : Met l yX0_init wsX0_init ({ frames := 1, cells := 7, slots := 36, locals := 12 }) (va_Pc [.ref h] (zPre0 D N0 [] [(h, .inr (0, [.null, .null, .null, .null, .null, .null, .null, .int 0, .int 0, .int 0, .int 0, .int 0]))])) (va_Qv (fun (_ : Unit) => True) (fun _ t => ∃ (d : Nat → Nat) (cA : ClassId), zPost D N0 (wX h d cA zI cI) t ∧ va_K D vwCl [(cA, .int)] t) (zA N0)) 7 36 (zA N0) := by
  refine Met.ofW (cc := cX0_init) (maxL := 1) (ret := none) (by decide) rfl ?_
  intro pr e s m ag below meth cd s₁ B hml hv
  obtain ⟨rfl, hN, hP, hD, hK⟩ := hv
  have hx := B.exec
  have hb := B.bytes
  have hr := B.returns
  have hts := atoms_spec (ws := wsX0_init) B.pre
  have hown : s.vm.findClass RX0 = some m.cls := findClass_of_methodNamed B.named
  have hlocks := B.notSynchronized
  have hin : meth.name = "<init>" := (name_of_methodNamed B.named B.method).1
  have hS : va_S (zA N0) s.heap s.heap [] := va_S.rf
  have hA : ∀ q : Nat, s.heap.size ≤ q → zA N0 q := fun q h9 => Nat.le_trans hN h9
  have hiw : ∀ w ∈ u_ws RX0 TX0 12, w ∈ wsX0_init := by decide +kernel
  have hl := lv_entry ([.ref h]) (n := 1) (Nat.le_of_ble_eq_true rfl)
  rw [lg_entry_eq]
  generalize (lg_sl ([.ref h]) ++ List.replicate (1 - (lg_sl ([.ref h])).length) Slot.unset).toArray = ls at hl ⊢
  have hl : lv_has ls 1 [(0, .ref h)] := hl
  refine lv_aload_n hx hb dX0_init_0 rfl (lv_at hl 0 rfl) ?_
  refine W.objInit hx hb hown (hts (.methodLink RX0 1 objectInit) (by decide +kernel)) (hts (.instanceMethod objectInit) (by decide +kernel)) (hts (.code objectInit ⟨#[0xb1]⟩ 1 none) (by decide +kernel)) rfl (by rw [hml]; exact hl.1) rfl dX0_init_1 (Nat.le_of_ble_eq_true rfl) (Nat.le_of_ble_eq_true rfl) ?_
  refine W.eq (g2 := F0 m 4 ls []) rfl ?_
  refine lv_aload_n hx hb dX0_init_4 rfl (lv_at hl 0 rfl) ?_
  refine lv_iconst (v := 4) hx hb dX0_init_5 (by decide) ?_
  refine va_newa (atype := .int) (ty := .int) (N' := 4) (a0 := (4, .inl (fun _ => 0))) hx hb (hts (.arrayClass .int) (by decide +kernel)) rfl hK hP hD hS hA (fun _ => rfl) (by decide) (by decide) (by decide) (Nat.le_of_ble_eq_true rfl) (Nat.le_of_ble_eq_true rfl) dX0_init_6 (fun q0 cA H hK hP hD hS => ?_)
  have hP : va_P D vwCl [(h, .inr (0, [.null, .null, .null, .null, .null, .null, .null, .int 0, .int 0, .int 0, .int 0, .int 0])), (q0, .inl (cA, 4, .inl (fun _ => 0)))] H := hP
  have hD : va_D (zA N0) [(h, .inr (0, [.null, .null, .null, .null, .null, .null, .null, .int 0, .int 0, .int 0, .int 0, .int 0])), (q0, .inl (cA, 4, .inl (fun _ => 0)))] := hD
  refine lv_dup hx hb dX0_init_8 rfl ?_
  refine lv_iconst (v := 0) hx hb dX0_init_9 (by decide) ?_
  refine lv_iconst (v := (-1)) hx hb dX0_init_10 (by decide) ?_
  refine va_iast hx hb hK hP hD hS 1 0 rfl rfl (vp_in_nI (n := 0) (by decide) (by decide)) dX0_init_11 (fun H locs hP hD hS => ?_)
  have hP : va_P D vwCl [(h, .inr (0, [.null, .null, .null, .null, .null, .null, .null, .int 0, .int 0, .int 0, .int 0, .int 0])), (q0, .inl (cA, 4, .inl (upd (fun _ => 0) (0 : Int32).toNatClampNeg (-1))))] H := hP
  have hD : va_D (zA N0) [(h, .inr (0, [.null, .null, .null, .null, .null, .null, .null, .int 0, .int 0, .int 0, .int 0, .int 0])), (q0, .inl (cA, 4, .inl (upd (fun _ => 0) (0 : Int32).toNatClampNeg (-1))))] := hD
  refine lv_dup hx hb dX0_init_12 rfl ?_
  refine lv_iconst (v := 1) hx hb dX0_init_13 (by decide) ?_
  refine lv_iconst (v := (-1)) hx hb dX0_init_14 (by decide) ?_
  refine va_iast hx hb hK hP hD hS 1 0 rfl rfl (vp_in_nI (n := 1) (by decide) (by decide)) dX0_init_15 (fun H locs hP hD hS => ?_)
  have hP : va_P D vwCl [(h, .inr (0, [.null, .null, .null, .null, .null, .null, .null, .int 0, .int 0, .int 0, .int 0, .int 0])), (q0, .inl (cA, 4, .inl (upd (upd (fun _ => 0) (0 : Int32).toNatClampNeg (-1)) (1 : Int32).toNatClampNeg (-1))))] H := hP
  have hD : va_D (zA N0) [(h, .inr (0, [.null, .null, .null, .null, .null, .null, .null, .int 0, .int 0, .int 0, .int 0, .int 0])), (q0, .inl (cA, 4, .inl (upd (upd (fun _ => 0) (0 : Int32).toNatClampNeg (-1)) (1 : Int32).toNatClampNeg (-1))))] := hD
  refine lv_dup hx hb dX0_init_16 rfl ?_
  refine lv_iconst (v := 2) hx hb dX0_init_17 (by decide) ?_
  refine lv_iconst (v := (-1)) hx hb dX0_init_18 (by decide) ?_
  refine va_iast hx hb hK hP hD hS 1 0 rfl rfl (vp_in_nI (n := 2) (by decide) (by decide)) dX0_init_19 (fun H locs hP hD hS => ?_)
  have hP : va_P D vwCl [(h, .inr (0, [.null, .null, .null, .null, .null, .null, .null, .int 0, .int 0, .int 0, .int 0, .int 0])), (q0, .inl (cA, 4, .inl (upd (upd (upd (fun _ => 0) (0 : Int32).toNatClampNeg (-1)) (1 : Int32).toNatClampNeg (-1)) (2 : Int32).toNatClampNeg (-1))))] H := hP
  have hD : va_D (zA N0) [(h, .inr (0, [.null, .null, .null, .null, .null, .null, .null, .int 0, .int 0, .int 0, .int 0, .int 0])), (q0, .inl (cA, 4, .inl (upd (upd (upd (fun _ => 0) (0 : Int32).toNatClampNeg (-1)) (1 : Int32).toNatClampNeg (-1)) (2 : Int32).toNatClampNeg (-1))))] := hD
  refine lv_dup hx hb dX0_init_20 rfl ?_
  refine lv_iconst (v := 3) hx hb dX0_init_21 (by decide) ?_
  refine lv_iconst (v := (-1)) hx hb dX0_init_22 (by decide) ?_
  refine va_iast hx hb hK hP hD hS 1 0 rfl rfl (vp_in_nI (n := 3) (by decide) (by decide)) dX0_init_23 (fun H locs hP hD hS => ?_)
  have hP : va_P D vwCl [(h, .inr (0, [.null, .null, .null, .null, .null, .null, .null, .int 0, .int 0, .int 0, .int 0, .int 0])), (q0, .inl (cA, 4, .inl (upd (upd (upd (upd (fun _ => 0) (0 : Int32).toNatClampNeg (-1)) (1 : Int32).toNatClampNeg (-1)) (2 : Int32).toNatClampNeg (-1)) (3 : Int32).toNatClampNeg (-1))))] H := hP
  have hD : va_D (zA N0) [(h, .inr (0, [.null, .null, .null, .null, .null, .null, .null, .int 0, .int 0, .int 0, .int 0, .int 0])), (q0, .inl (cA, 4, .inl (upd (upd (upd (upd (fun _ => 0) (0 : Int32).toNatClampNeg (-1)) (1 : Int32).toNatClampNeg (-1)) (2 : Int32).toNatClampNeg (-1)) (3 : Int32).toNatClampNeg (-1))))] := hD
  refine va_putF (D := D) (ci := 0) (v := .ref q0) (ty := (.array .int)) (C := RX0) (T := TX0) (N := 12) hx hb hts hiw tyX0 tyX0_ok nmX0 hown hK hP hD hS 0 rfl rfl 0 (by decide) (hts (.fieldLink RX0 9 "TunedWrens" "rungOfWren" "[I") (by decide +kernel)) (fun _ h9 => h9) rfl hin rfl (by decide +kernel) rfl rfl (Nat.le_of_ble_eq_true rfl) dX0_init_24 (fun H locs hP hD hS => ?_)
  have hP : va_P D vwCl [(h, .inr (0, [.ref q0, .null, .null, .null, .null, .null, .null, .int 0, .int 0, .int 0, .int 0, .int 0])), (q0, .inl (cA, 4, .inl (upd (upd (upd (upd (fun _ => 0) (0 : Int32).toNatClampNeg (-1)) (1 : Int32).toNatClampNeg (-1)) (2 : Int32).toNatClampNeg (-1)) (3 : Int32).toNatClampNeg (-1))))] H := hP
  have hD : va_D (zA N0) [(h, .inr (0, [.ref q0, .null, .null, .null, .null, .null, .null, .int 0, .int 0, .int 0, .int 0, .int 0])), (q0, .inl (cA, 4, .inl (upd (upd (upd (upd (fun _ => 0) (0 : Int32).toNatClampNeg (-1)) (1 : Int32).toNatClampNeg (-1)) (2 : Int32).toNatClampNeg (-1)) (3 : Int32).toNatClampNeg (-1))))] := hD
  refine lv_aload_n hx hb dX0_init_27 rfl (lv_at hl 0 rfl) ?_
  refine lv_iconst (v := 4) hx hb dX0_init_28 (by decide) ?_
  refine va_newa (atype := .int) (ty := .int) (N' := 4) (a0 := (4, .inl (fun _ => 0))) hx hb (hts (.arrayClass .int) (by decide +kernel)) rfl hK hP hD hS hA (fun _ => rfl) (by decide) (by decide) (by decide) (Nat.le_of_ble_eq_true rfl) (Nat.le_of_ble_eq_true rfl) dX0_init_29 (fun q1 cB H hK hP hD hS => ?_)
  obtain rfl : cA = cB := (zcA hK (i := 0) (j := 1) rfl rfl).symm
  have hK : va_K D vwCl [(cA, .int)] s := hK.sub [0] rfl
  have hP : va_P D vwCl [(h, .inr (0, [.ref q0, .null, .null, .null, .null, .null, .null, .int 0, .int 0, .int 0, .int 0, .int 0])), (q0, .inl (cA, 4, .inl (upd (upd (upd (upd (fun _ => 0) (0 : Int32).toNatClampNeg (-1)) (1 : Int32).toNatClampNeg (-1)) (2 : Int32).toNatClampNeg (-1)) (3 : Int32).toNatClampNeg (-1)))), (q1, .inl (cA, 4, .inl (fun _ => 0)))] H := hP
  have hD : va_D (zA N0) [(h, .inr (0, [.ref q0, .null, .null, .null, .null, .null, .null, .int 0, .int 0, .int 0, .int 0, .int 0])), (q0, .inl (cA, 4, .inl (upd (upd (upd (upd (fun _ => 0) (0 : Int32).toNatClampNeg (-1)) (1 : Int32).toNatClampNeg (-1)) (2 : Int32).toNatClampNeg (-1)) (3 : Int32).toNatClampNeg (-1)))), (q1, .inl (cA, 4, .inl (fun _ => 0)))] := hD
  refine va_putF (D := D) (ci := 0) (v := .ref q1) (ty := (.array .int)) (C := RX0) (T := TX0) (N := 12) hx hb hts hiw tyX0 tyX0_ok nmX0 hown hK hP hD hS 0 rfl rfl 1 (by decide) (hts (.fieldLink RX0 13 "TunedWrens" "nudgeOfWren" "[I") (by decide +kernel)) (fun _ h9 => h9) rfl hin rfl (by decide +kernel) rfl rfl (Nat.le_of_ble_eq_true rfl) dX0_init_31 (fun H locs hP hD hS => ?_)
  have hP : va_P D vwCl [(h, .inr (0, [.ref q0, .ref q1, .null, .null, .null, .null, .null, .int 0, .int 0, .int 0, .int 0, .int 0])), (q0, .inl (cA, 4, .inl (upd (upd (upd (upd (fun _ => 0) (0 : Int32).toNatClampNeg (-1)) (1 : Int32).toNatClampNeg (-1)) (2 : Int32).toNatClampNeg (-1)) (3 : Int32).toNatClampNeg (-1)))), (q1, .inl (cA, 4, .inl (fun _ => 0)))] H := hP
  have hD : va_D (zA N0) [(h, .inr (0, [.ref q0, .ref q1, .null, .null, .null, .null, .null, .int 0, .int 0, .int 0, .int 0, .int 0])), (q0, .inl (cA, 4, .inl (upd (upd (upd (upd (fun _ => 0) (0 : Int32).toNatClampNeg (-1)) (1 : Int32).toNatClampNeg (-1)) (2 : Int32).toNatClampNeg (-1)) (3 : Int32).toNatClampNeg (-1)))), (q1, .inl (cA, 4, .inl (fun _ => 0)))] := hD
  refine lv_aload_n hx hb dX0_init_34 rfl (lv_at hl 0 rfl) ?_
  refine lv_iconst (v := 4) hx hb dX0_init_35 (by decide) ?_
  refine va_newa (atype := .int) (ty := .int) (N' := 4) (a0 := (4, .inl (fun _ => 0))) hx hb (hts (.arrayClass .int) (by decide +kernel)) rfl hK hP hD hS hA (fun _ => rfl) (by decide) (by decide) (by decide) (Nat.le_of_ble_eq_true rfl) (Nat.le_of_ble_eq_true rfl) dX0_init_36 (fun q2 cB H hK hP hD hS => ?_)
  obtain rfl : cA = cB := (zcA hK (i := 0) (j := 1) rfl rfl).symm
  have hK : va_K D vwCl [(cA, .int)] s := hK.sub [0] rfl
  have hP : va_P D vwCl [(h, .inr (0, [.ref q0, .ref q1, .null, .null, .null, .null, .null, .int 0, .int 0, .int 0, .int 0, .int 0])), (q0, .inl (cA, 4, .inl (upd (upd (upd (upd (fun _ => 0) (0 : Int32).toNatClampNeg (-1)) (1 : Int32).toNatClampNeg (-1)) (2 : Int32).toNatClampNeg (-1)) (3 : Int32).toNatClampNeg (-1)))), (q1, .inl (cA, 4, .inl (fun _ => 0))), (q2, .inl (cA, 4, .inl (fun _ => 0)))] H := hP
  have hD : va_D (zA N0) [(h, .inr (0, [.ref q0, .ref q1, .null, .null, .null, .null, .null, .int 0, .int 0, .int 0, .int 0, .int 0])), (q0, .inl (cA, 4, .inl (upd (upd (upd (upd (fun _ => 0) (0 : Int32).toNatClampNeg (-1)) (1 : Int32).toNatClampNeg (-1)) (2 : Int32).toNatClampNeg (-1)) (3 : Int32).toNatClampNeg (-1)))), (q1, .inl (cA, 4, .inl (fun _ => 0))), (q2, .inl (cA, 4, .inl (fun _ => 0)))] := hD
  refine va_putF (D := D) (ci := 0) (v := .ref q2) (ty := (.array .int)) (C := RX0) (T := TX0) (N := 12) hx hb hts hiw tyX0 tyX0_ok nmX0 hown hK hP hD hS 0 rfl rfl 2 (by decide) (hts (.fieldLink RX0 16 "TunedWrens" "framesOfWren" "[I") (by decide +kernel)) (fun _ h9 => h9) rfl hin rfl (by decide +kernel) rfl rfl (Nat.le_of_ble_eq_true rfl) dX0_init_38 (fun H locs hP hD hS => ?_)
  have hP : va_P D vwCl [(h, .inr (0, [.ref q0, .ref q1, .ref q2, .null, .null, .null, .null, .int 0, .int 0, .int 0, .int 0, .int 0])), (q0, .inl (cA, 4, .inl (upd (upd (upd (upd (fun _ => 0) (0 : Int32).toNatClampNeg (-1)) (1 : Int32).toNatClampNeg (-1)) (2 : Int32).toNatClampNeg (-1)) (3 : Int32).toNatClampNeg (-1)))), (q1, .inl (cA, 4, .inl (fun _ => 0))), (q2, .inl (cA, 4, .inl (fun _ => 0)))] H := hP
  have hD : va_D (zA N0) [(h, .inr (0, [.ref q0, .ref q1, .ref q2, .null, .null, .null, .null, .int 0, .int 0, .int 0, .int 0, .int 0])), (q0, .inl (cA, 4, .inl (upd (upd (upd (upd (fun _ => 0) (0 : Int32).toNatClampNeg (-1)) (1 : Int32).toNatClampNeg (-1)) (2 : Int32).toNatClampNeg (-1)) (3 : Int32).toNatClampNeg (-1)))), (q1, .inl (cA, 4, .inl (fun _ => 0))), (q2, .inl (cA, 4, .inl (fun _ => 0)))] := hD
  refine lv_aload_n hx hb dX0_init_41 rfl (lv_at hl 0 rfl) ?_
  refine lv_iconst (v := 4) hx hb dX0_init_42 (by decide) ?_
  refine va_newa (atype := .int) (ty := .int) (N' := 4) (a0 := (4, .inl (fun _ => 0))) hx hb (hts (.arrayClass .int) (by decide +kernel)) rfl hK hP hD hS hA (fun _ => rfl) (by decide) (by decide) (by decide) (Nat.le_of_ble_eq_true rfl) (Nat.le_of_ble_eq_true rfl) dX0_init_43 (fun q3 cB H hK hP hD hS => ?_)
  obtain rfl : cA = cB := (zcA hK (i := 0) (j := 1) rfl rfl).symm
  have hK : va_K D vwCl [(cA, .int)] s := hK.sub [0] rfl
  have hP : va_P D vwCl [(h, .inr (0, [.ref q0, .ref q1, .ref q2, .null, .null, .null, .null, .int 0, .int 0, .int 0, .int 0, .int 0])), (q0, .inl (cA, 4, .inl (upd (upd (upd (upd (fun _ => 0) (0 : Int32).toNatClampNeg (-1)) (1 : Int32).toNatClampNeg (-1)) (2 : Int32).toNatClampNeg (-1)) (3 : Int32).toNatClampNeg (-1)))), (q1, .inl (cA, 4, .inl (fun _ => 0))), (q2, .inl (cA, 4, .inl (fun _ => 0))), (q3, .inl (cA, 4, .inl (fun _ => 0)))] H := hP
  have hD : va_D (zA N0) [(h, .inr (0, [.ref q0, .ref q1, .ref q2, .null, .null, .null, .null, .int 0, .int 0, .int 0, .int 0, .int 0])), (q0, .inl (cA, 4, .inl (upd (upd (upd (upd (fun _ => 0) (0 : Int32).toNatClampNeg (-1)) (1 : Int32).toNatClampNeg (-1)) (2 : Int32).toNatClampNeg (-1)) (3 : Int32).toNatClampNeg (-1)))), (q1, .inl (cA, 4, .inl (fun _ => 0))), (q2, .inl (cA, 4, .inl (fun _ => 0))), (q3, .inl (cA, 4, .inl (fun _ => 0)))] := hD
  refine va_putF (D := D) (ci := 0) (v := .ref q3) (ty := (.array .int)) (C := RX0) (T := TX0) (N := 12) hx hb hts hiw tyX0 tyX0_ok nmX0 hown hK hP hD hS 0 rfl rfl 3 (by decide) (hts (.fieldLink RX0 19 "TunedWrens" "changesOfWren" "[I") (by decide +kernel)) (fun _ h9 => h9) rfl hin rfl (by decide +kernel) rfl rfl (Nat.le_of_ble_eq_true rfl) dX0_init_45 (fun H locs hP hD hS => ?_)
  have hP : va_P D vwCl [(h, .inr (0, [.ref q0, .ref q1, .ref q2, .ref q3, .null, .null, .null, .int 0, .int 0, .int 0, .int 0, .int 0])), (q0, .inl (cA, 4, .inl (upd (upd (upd (upd (fun _ => 0) (0 : Int32).toNatClampNeg (-1)) (1 : Int32).toNatClampNeg (-1)) (2 : Int32).toNatClampNeg (-1)) (3 : Int32).toNatClampNeg (-1)))), (q1, .inl (cA, 4, .inl (fun _ => 0))), (q2, .inl (cA, 4, .inl (fun _ => 0))), (q3, .inl (cA, 4, .inl (fun _ => 0)))] H := hP
  have hD : va_D (zA N0) [(h, .inr (0, [.ref q0, .ref q1, .ref q2, .ref q3, .null, .null, .null, .int 0, .int 0, .int 0, .int 0, .int 0])), (q0, .inl (cA, 4, .inl (upd (upd (upd (upd (fun _ => 0) (0 : Int32).toNatClampNeg (-1)) (1 : Int32).toNatClampNeg (-1)) (2 : Int32).toNatClampNeg (-1)) (3 : Int32).toNatClampNeg (-1)))), (q1, .inl (cA, 4, .inl (fun _ => 0))), (q2, .inl (cA, 4, .inl (fun _ => 0))), (q3, .inl (cA, 4, .inl (fun _ => 0)))] := hD
  refine lv_aload_n hx hb dX0_init_48 rfl (lv_at hl 0 rfl) ?_
  refine lv_iconst (v := 4) hx hb dX0_init_49 (by decide) ?_
  refine va_newa (atype := .int) (ty := .int) (N' := 4) (a0 := (4, .inl (fun _ => 0))) hx hb (hts (.arrayClass .int) (by decide +kernel)) rfl hK hP hD hS hA (fun _ => rfl) (by decide) (by decide) (by decide) (Nat.le_of_ble_eq_true rfl) (Nat.le_of_ble_eq_true rfl) dX0_init_50 (fun q4 cB H hK hP hD hS => ?_)
  obtain rfl : cA = cB := (zcA hK (i := 0) (j := 1) rfl rfl).symm
  have hK : va_K D vwCl [(cA, .int)] s := hK.sub [0] rfl
  have hP : va_P D vwCl [(h, .inr (0, [.ref q0, .ref q1, .ref q2, .ref q3, .null, .null, .null, .int 0, .int 0, .int 0, .int 0, .int 0])), (q0, .inl (cA, 4, .inl (upd (upd (upd (upd (fun _ => 0) (0 : Int32).toNatClampNeg (-1)) (1 : Int32).toNatClampNeg (-1)) (2 : Int32).toNatClampNeg (-1)) (3 : Int32).toNatClampNeg (-1)))), (q1, .inl (cA, 4, .inl (fun _ => 0))), (q2, .inl (cA, 4, .inl (fun _ => 0))), (q3, .inl (cA, 4, .inl (fun _ => 0))), (q4, .inl (cA, 4, .inl (fun _ => 0)))] H := hP
  have hD : va_D (zA N0) [(h, .inr (0, [.ref q0, .ref q1, .ref q2, .ref q3, .null, .null, .null, .int 0, .int 0, .int 0, .int 0, .int 0])), (q0, .inl (cA, 4, .inl (upd (upd (upd (upd (fun _ => 0) (0 : Int32).toNatClampNeg (-1)) (1 : Int32).toNatClampNeg (-1)) (2 : Int32).toNatClampNeg (-1)) (3 : Int32).toNatClampNeg (-1)))), (q1, .inl (cA, 4, .inl (fun _ => 0))), (q2, .inl (cA, 4, .inl (fun _ => 0))), (q3, .inl (cA, 4, .inl (fun _ => 0))), (q4, .inl (cA, 4, .inl (fun _ => 0)))] := hD
  refine va_putF (D := D) (ci := 0) (v := .ref q4) (ty := (.array .int)) (C := RX0) (T := TX0) (N := 12) hx hb hts hiw tyX0 tyX0_ok nmX0 hown hK hP hD hS 0 rfl rfl 4 (by decide) (hts (.fieldLink RX0 22 "TunedWrens" "leapsOfWren" "[I") (by decide +kernel)) (fun _ h9 => h9) rfl hin rfl (by decide +kernel) rfl rfl (Nat.le_of_ble_eq_true rfl) dX0_init_52 (fun H locs hP hD hS => ?_)
  have hP : va_P D vwCl [(h, .inr (0, [.ref q0, .ref q1, .ref q2, .ref q3, .ref q4, .null, .null, .int 0, .int 0, .int 0, .int 0, .int 0])), (q0, .inl (cA, 4, .inl (upd (upd (upd (upd (fun _ => 0) (0 : Int32).toNatClampNeg (-1)) (1 : Int32).toNatClampNeg (-1)) (2 : Int32).toNatClampNeg (-1)) (3 : Int32).toNatClampNeg (-1)))), (q1, .inl (cA, 4, .inl (fun _ => 0))), (q2, .inl (cA, 4, .inl (fun _ => 0))), (q3, .inl (cA, 4, .inl (fun _ => 0))), (q4, .inl (cA, 4, .inl (fun _ => 0)))] H := hP
  have hD : va_D (zA N0) [(h, .inr (0, [.ref q0, .ref q1, .ref q2, .ref q3, .ref q4, .null, .null, .int 0, .int 0, .int 0, .int 0, .int 0])), (q0, .inl (cA, 4, .inl (upd (upd (upd (upd (fun _ => 0) (0 : Int32).toNatClampNeg (-1)) (1 : Int32).toNatClampNeg (-1)) (2 : Int32).toNatClampNeg (-1)) (3 : Int32).toNatClampNeg (-1)))), (q1, .inl (cA, 4, .inl (fun _ => 0))), (q2, .inl (cA, 4, .inl (fun _ => 0))), (q3, .inl (cA, 4, .inl (fun _ => 0))), (q4, .inl (cA, 4, .inl (fun _ => 0)))] := hD
  refine lv_aload_n hx hb dX0_init_55 rfl (lv_at hl 0 rfl) ?_
  refine lv_iconst (v := 4) hx hb dX0_init_56 (by decide) ?_
  refine va_newa (atype := .int) (ty := .int) (N' := 4) (a0 := (4, .inl (fun _ => 0))) hx hb (hts (.arrayClass .int) (by decide +kernel)) rfl hK hP hD hS hA (fun _ => rfl) (by decide) (by decide) (by decide) (Nat.le_of_ble_eq_true rfl) (Nat.le_of_ble_eq_true rfl) dX0_init_57 (fun q5 cB H hK hP hD hS => ?_)
  obtain rfl : cA = cB := (zcA hK (i := 0) (j := 1) rfl rfl).symm
  have hK : va_K D vwCl [(cA, .int)] s := hK.sub [0] rfl
  have hP : va_P D vwCl [(h, .inr (0, [.ref q0, .ref q1, .ref q2, .ref q3, .ref q4, .null, .null, .int 0, .int 0, .int 0, .int 0, .int 0])), (q0, .inl (cA, 4, .inl (upd (upd (upd (upd (fun _ => 0) (0 : Int32).toNatClampNeg (-1)) (1 : Int32).toNatClampNeg (-1)) (2 : Int32).toNatClampNeg (-1)) (3 : Int32).toNatClampNeg (-1)))), (q1, .inl (cA, 4, .inl (fun _ => 0))), (q2, .inl (cA, 4, .inl (fun _ => 0))), (q3, .inl (cA, 4, .inl (fun _ => 0))), (q4, .inl (cA, 4, .inl (fun _ => 0))), (q5, .inl (cA, 4, .inl (fun _ => 0)))] H := hP
  have hD : va_D (zA N0) [(h, .inr (0, [.ref q0, .ref q1, .ref q2, .ref q3, .ref q4, .null, .null, .int 0, .int 0, .int 0, .int 0, .int 0])), (q0, .inl (cA, 4, .inl (upd (upd (upd (upd (fun _ => 0) (0 : Int32).toNatClampNeg (-1)) (1 : Int32).toNatClampNeg (-1)) (2 : Int32).toNatClampNeg (-1)) (3 : Int32).toNatClampNeg (-1)))), (q1, .inl (cA, 4, .inl (fun _ => 0))), (q2, .inl (cA, 4, .inl (fun _ => 0))), (q3, .inl (cA, 4, .inl (fun _ => 0))), (q4, .inl (cA, 4, .inl (fun _ => 0))), (q5, .inl (cA, 4, .inl (fun _ => 0)))] := hD
  refine va_putF (D := D) (ci := 0) (v := .ref q5) (ty := (.array .int)) (C := RX0) (T := TX0) (N := 12) hx hb hts hiw tyX0 tyX0_ok nmX0 hown hK hP hD hS 0 rfl rfl 5 (by decide) (hts (.fieldLink RX0 25 "TunedWrens" "cleanOfWren" "[I") (by decide +kernel)) (fun _ h9 => h9) rfl hin rfl (by decide +kernel) rfl rfl (Nat.le_of_ble_eq_true rfl) dX0_init_59 (fun H locs hP hD hS => ?_)
  have hP : va_P D vwCl [(h, .inr (0, [.ref q0, .ref q1, .ref q2, .ref q3, .ref q4, .ref q5, .null, .int 0, .int 0, .int 0, .int 0, .int 0])), (q0, .inl (cA, 4, .inl (upd (upd (upd (upd (fun _ => 0) (0 : Int32).toNatClampNeg (-1)) (1 : Int32).toNatClampNeg (-1)) (2 : Int32).toNatClampNeg (-1)) (3 : Int32).toNatClampNeg (-1)))), (q1, .inl (cA, 4, .inl (fun _ => 0))), (q2, .inl (cA, 4, .inl (fun _ => 0))), (q3, .inl (cA, 4, .inl (fun _ => 0))), (q4, .inl (cA, 4, .inl (fun _ => 0))), (q5, .inl (cA, 4, .inl (fun _ => 0)))] H := hP
  have hD : va_D (zA N0) [(h, .inr (0, [.ref q0, .ref q1, .ref q2, .ref q3, .ref q4, .ref q5, .null, .int 0, .int 0, .int 0, .int 0, .int 0])), (q0, .inl (cA, 4, .inl (upd (upd (upd (upd (fun _ => 0) (0 : Int32).toNatClampNeg (-1)) (1 : Int32).toNatClampNeg (-1)) (2 : Int32).toNatClampNeg (-1)) (3 : Int32).toNatClampNeg (-1)))), (q1, .inl (cA, 4, .inl (fun _ => 0))), (q2, .inl (cA, 4, .inl (fun _ => 0))), (q3, .inl (cA, 4, .inl (fun _ => 0))), (q4, .inl (cA, 4, .inl (fun _ => 0))), (q5, .inl (cA, 4, .inl (fun _ => 0)))] := hD
  refine lv_aload_n hx hb dX0_init_62 rfl (lv_at hl 0 rfl) ?_
  refine lv_bipush (v := 12) hx hb dX0_init_63 (by decide) ?_
  refine va_newa (atype := .int) (ty := .int) (N' := 12) (a0 := (12, .inl (fun _ => 0))) hx hb (hts (.arrayClass .int) (by decide +kernel)) rfl hK hP hD hS hA (fun _ => rfl) (by decide) (by decide) (by decide) (Nat.le_of_ble_eq_true rfl) (Nat.le_of_ble_eq_true rfl) dX0_init_65 (fun q6 cB H hK hP hD hS => ?_)
  obtain rfl : cA = cB := (zcA hK (i := 0) (j := 1) rfl rfl).symm
  have hK : va_K D vwCl [(cA, .int)] s := hK.sub [0] rfl
  have hP : va_P D vwCl [(h, .inr (0, [.ref q0, .ref q1, .ref q2, .ref q3, .ref q4, .ref q5, .null, .int 0, .int 0, .int 0, .int 0, .int 0])), (q0, .inl (cA, 4, .inl (upd (upd (upd (upd (fun _ => 0) (0 : Int32).toNatClampNeg (-1)) (1 : Int32).toNatClampNeg (-1)) (2 : Int32).toNatClampNeg (-1)) (3 : Int32).toNatClampNeg (-1)))), (q1, .inl (cA, 4, .inl (fun _ => 0))), (q2, .inl (cA, 4, .inl (fun _ => 0))), (q3, .inl (cA, 4, .inl (fun _ => 0))), (q4, .inl (cA, 4, .inl (fun _ => 0))), (q5, .inl (cA, 4, .inl (fun _ => 0))), (q6, .inl (cA, 12, .inl (fun _ => 0)))] H := hP
  have hD : va_D (zA N0) [(h, .inr (0, [.ref q0, .ref q1, .ref q2, .ref q3, .ref q4, .ref q5, .null, .int 0, .int 0, .int 0, .int 0, .int 0])), (q0, .inl (cA, 4, .inl (upd (upd (upd (upd (fun _ => 0) (0 : Int32).toNatClampNeg (-1)) (1 : Int32).toNatClampNeg (-1)) (2 : Int32).toNatClampNeg (-1)) (3 : Int32).toNatClampNeg (-1)))), (q1, .inl (cA, 4, .inl (fun _ => 0))), (q2, .inl (cA, 4, .inl (fun _ => 0))), (q3, .inl (cA, 4, .inl (fun _ => 0))), (q4, .inl (cA, 4, .inl (fun _ => 0))), (q5, .inl (cA, 4, .inl (fun _ => 0))), (q6, .inl (cA, 12, .inl (fun _ => 0)))] := hD
  refine va_putF (D := D) (ci := 0) (v := .ref q6) (ty := (.array .int)) (C := RX0) (T := TX0) (N := 12) hx hb hts hiw tyX0 tyX0_ok nmX0 hown hK hP hD hS 0 rfl rfl 6 (by decide) (hts (.fieldLink RX0 28 "TunedWrens" "framesOfSemitone" "[I") (by decide +kernel)) (fun _ h9 => h9) rfl hin rfl (by decide +kernel) rfl rfl (Nat.le_of_ble_eq_true rfl) dX0_init_67 (fun H locs hP hD hS => ?_)
  have hP : va_P D vwCl [(h, .inr (0, [.ref q0, .ref q1, .ref q2, .ref q3, .ref q4, .ref q5, .ref q6, .int 0, .int 0, .int 0, .int 0, .int 0])), (q0, .inl (cA, 4, .inl (upd (upd (upd (upd (fun _ => 0) (0 : Int32).toNatClampNeg (-1)) (1 : Int32).toNatClampNeg (-1)) (2 : Int32).toNatClampNeg (-1)) (3 : Int32).toNatClampNeg (-1)))), (q1, .inl (cA, 4, .inl (fun _ => 0))), (q2, .inl (cA, 4, .inl (fun _ => 0))), (q3, .inl (cA, 4, .inl (fun _ => 0))), (q4, .inl (cA, 4, .inl (fun _ => 0))), (q5, .inl (cA, 4, .inl (fun _ => 0))), (q6, .inl (cA, 12, .inl (fun _ => 0)))] H := hP
  have hD : va_D (zA N0) [(h, .inr (0, [.ref q0, .ref q1, .ref q2, .ref q3, .ref q4, .ref q5, .ref q6, .int 0, .int 0, .int 0, .int 0, .int 0])), (q0, .inl (cA, 4, .inl (upd (upd (upd (upd (fun _ => 0) (0 : Int32).toNatClampNeg (-1)) (1 : Int32).toNatClampNeg (-1)) (2 : Int32).toNatClampNeg (-1)) (3 : Int32).toNatClampNeg (-1)))), (q1, .inl (cA, 4, .inl (fun _ => 0))), (q2, .inl (cA, 4, .inl (fun _ => 0))), (q3, .inl (cA, 4, .inl (fun _ => 0))), (q4, .inl (cA, 4, .inl (fun _ => 0))), (q5, .inl (cA, 4, .inl (fun _ => 0))), (q6, .inl (cA, 12, .inl (fun _ => 0)))] := hD
  refine lv_aload_n hx hb dX0_init_70 rfl (lv_at hl 0 rfl) ?_
  refine lv_iconst (v := 0) hx hb dX0_init_71 (by decide) ?_
  refine va_put (D := D) (ci := 0) (v := .int 0) (ty := .int) (C := RX0) (T := TX0) (N := 12) hx hb hts hiw tyX0 tyX0_ok nmX0 hown hK hP hD hS 0 rfl rfl 7 (by decide) (hts (.fieldLink RX0 31 "TunedWrens" "scaleKey" "I") (by decide +kernel)) (fun _ h9 => h9) rfl (by decide +kernel) rfl rfl (Nat.le_of_ble_eq_true rfl) dX0_init_72 (fun H locs hP hD hS => ?_)
  have hP : va_P D vwCl [(h, .inr (0, [.ref q0, .ref q1, .ref q2, .ref q3, .ref q4, .ref q5, .ref q6, .int 0, .int 0, .int 0, .int 0, .int 0])), (q0, .inl (cA, 4, .inl (upd (upd (upd (upd (fun _ => 0) (0 : Int32).toNatClampNeg (-1)) (1 : Int32).toNatClampNeg (-1)) (2 : Int32).toNatClampNeg (-1)) (3 : Int32).toNatClampNeg (-1)))), (q1, .inl (cA, 4, .inl (fun _ => 0))), (q2, .inl (cA, 4, .inl (fun _ => 0))), (q3, .inl (cA, 4, .inl (fun _ => 0))), (q4, .inl (cA, 4, .inl (fun _ => 0))), (q5, .inl (cA, 4, .inl (fun _ => 0))), (q6, .inl (cA, 12, .inl (fun _ => 0)))] H := hP
  have hD : va_D (zA N0) [(h, .inr (0, [.ref q0, .ref q1, .ref q2, .ref q3, .ref q4, .ref q5, .ref q6, .int 0, .int 0, .int 0, .int 0, .int 0])), (q0, .inl (cA, 4, .inl (upd (upd (upd (upd (fun _ => 0) (0 : Int32).toNatClampNeg (-1)) (1 : Int32).toNatClampNeg (-1)) (2 : Int32).toNatClampNeg (-1)) (3 : Int32).toNatClampNeg (-1)))), (q1, .inl (cA, 4, .inl (fun _ => 0))), (q2, .inl (cA, 4, .inl (fun _ => 0))), (q3, .inl (cA, 4, .inl (fun _ => 0))), (q4, .inl (cA, 4, .inl (fun _ => 0))), (q5, .inl (cA, 4, .inl (fun _ => 0))), (q6, .inl (cA, 12, .inl (fun _ => 0)))] := hD
  refine lv_aload_n hx hb dX0_init_75 rfl (lv_at hl 0 rfl) ?_
  refine lv_iconst (v := 0) hx hb dX0_init_76 (by decide) ?_
  refine va_put (D := D) (ci := 0) (v := .int 0) (ty := .int) (C := RX0) (T := TX0) (N := 12) hx hb hts hiw tyX0 tyX0_ok nmX0 hown hK hP hD hS 0 rfl rfl 8 (by decide) (hts (.fieldLink RX0 35 "TunedWrens" "scaleMode" "I") (by decide +kernel)) (fun _ h9 => h9) rfl (by decide +kernel) rfl rfl (Nat.le_of_ble_eq_true rfl) dX0_init_77 (fun H locs hP hD hS => ?_)
  have hP : va_P D vwCl [(h, .inr (0, [.ref q0, .ref q1, .ref q2, .ref q3, .ref q4, .ref q5, .ref q6, .int 0, .int 0, .int 0, .int 0, .int 0])), (q0, .inl (cA, 4, .inl (upd (upd (upd (upd (fun _ => 0) (0 : Int32).toNatClampNeg (-1)) (1 : Int32).toNatClampNeg (-1)) (2 : Int32).toNatClampNeg (-1)) (3 : Int32).toNatClampNeg (-1)))), (q1, .inl (cA, 4, .inl (fun _ => 0))), (q2, .inl (cA, 4, .inl (fun _ => 0))), (q3, .inl (cA, 4, .inl (fun _ => 0))), (q4, .inl (cA, 4, .inl (fun _ => 0))), (q5, .inl (cA, 4, .inl (fun _ => 0))), (q6, .inl (cA, 12, .inl (fun _ => 0)))] H := hP
  have hD : va_D (zA N0) [(h, .inr (0, [.ref q0, .ref q1, .ref q2, .ref q3, .ref q4, .ref q5, .ref q6, .int 0, .int 0, .int 0, .int 0, .int 0])), (q0, .inl (cA, 4, .inl (upd (upd (upd (upd (fun _ => 0) (0 : Int32).toNatClampNeg (-1)) (1 : Int32).toNatClampNeg (-1)) (2 : Int32).toNatClampNeg (-1)) (3 : Int32).toNatClampNeg (-1)))), (q1, .inl (cA, 4, .inl (fun _ => 0))), (q2, .inl (cA, 4, .inl (fun _ => 0))), (q3, .inl (cA, 4, .inl (fun _ => 0))), (q4, .inl (cA, 4, .inl (fun _ => 0))), (q5, .inl (cA, 4, .inl (fun _ => 0))), (q6, .inl (cA, 12, .inl (fun _ => 0)))] := hD
  refine lv_aload_n hx hb dX0_init_80 rfl (lv_at hl 0 rfl) ?_
  refine lv_bipush (v := 100) hx hb dX0_init_81 (by decide) ?_
  refine va_put (D := D) (ci := 0) (v := .int 100) (ty := .int) (C := RX0) (T := TX0) (N := 12) hx hb hts hiw tyX0 tyX0_ok nmX0 hown hK hP hD hS 0 rfl rfl 9 (by decide) (hts (.fieldLink RX0 38 "TunedWrens" "nudgeSpeed" "I") (by decide +kernel)) (fun _ h9 => h9) rfl (by decide +kernel) rfl rfl (Nat.le_of_ble_eq_true rfl) dX0_init_83 (fun H locs hP hD hS => ?_)
  have hP : va_P D vwCl [(h, .inr (0, [.ref q0, .ref q1, .ref q2, .ref q3, .ref q4, .ref q5, .ref q6, .int 0, .int 0, .int 100, .int 0, .int 0])), (q0, .inl (cA, 4, .inl (upd (upd (upd (upd (fun _ => 0) (0 : Int32).toNatClampNeg (-1)) (1 : Int32).toNatClampNeg (-1)) (2 : Int32).toNatClampNeg (-1)) (3 : Int32).toNatClampNeg (-1)))), (q1, .inl (cA, 4, .inl (fun _ => 0))), (q2, .inl (cA, 4, .inl (fun _ => 0))), (q3, .inl (cA, 4, .inl (fun _ => 0))), (q4, .inl (cA, 4, .inl (fun _ => 0))), (q5, .inl (cA, 4, .inl (fun _ => 0))), (q6, .inl (cA, 12, .inl (fun _ => 0)))] H := hP
  have hD : va_D (zA N0) [(h, .inr (0, [.ref q0, .ref q1, .ref q2, .ref q3, .ref q4, .ref q5, .ref q6, .int 0, .int 0, .int 100, .int 0, .int 0])), (q0, .inl (cA, 4, .inl (upd (upd (upd (upd (fun _ => 0) (0 : Int32).toNatClampNeg (-1)) (1 : Int32).toNatClampNeg (-1)) (2 : Int32).toNatClampNeg (-1)) (3 : Int32).toNatClampNeg (-1)))), (q1, .inl (cA, 4, .inl (fun _ => 0))), (q2, .inl (cA, 4, .inl (fun _ => 0))), (q3, .inl (cA, 4, .inl (fun _ => 0))), (q4, .inl (cA, 4, .inl (fun _ => 0))), (q5, .inl (cA, 4, .inl (fun _ => 0))), (q6, .inl (cA, 12, .inl (fun _ => 0)))] := hD
  refine lv_aload_n hx hb dX0_init_86 rfl (lv_at hl 0 rfl) ?_
  refine lv_bipush (v := 60) hx hb dX0_init_87 (by decide) ?_
  refine va_put (D := D) (ci := 0) (v := .int 60) (ty := .int) (C := RX0) (T := TX0) (N := 12) hx hb hts hiw tyX0 tyX0_ok nmX0 hown hK hP hD hS 0 rfl rfl 10 (by decide) (hts (.fieldLink RX0 41 "TunedWrens" "rungLeash" "I") (by decide +kernel)) (fun _ h9 => h9) rfl (by decide +kernel) rfl rfl (Nat.le_of_ble_eq_true rfl) dX0_init_89 (fun H locs hP hD hS => ?_)
  have hP : va_P D vwCl [(h, .inr (0, [.ref q0, .ref q1, .ref q2, .ref q3, .ref q4, .ref q5, .ref q6, .int 0, .int 0, .int 100, .int 60, .int 0])), (q0, .inl (cA, 4, .inl (upd (upd (upd (upd (fun _ => 0) (0 : Int32).toNatClampNeg (-1)) (1 : Int32).toNatClampNeg (-1)) (2 : Int32).toNatClampNeg (-1)) (3 : Int32).toNatClampNeg (-1)))), (q1, .inl (cA, 4, .inl (fun _ => 0))), (q2, .inl (cA, 4, .inl (fun _ => 0))), (q3, .inl (cA, 4, .inl (fun _ => 0))), (q4, .inl (cA, 4, .inl (fun _ => 0))), (q5, .inl (cA, 4, .inl (fun _ => 0))), (q6, .inl (cA, 12, .inl (fun _ => 0)))] H := hP
  have hD : va_D (zA N0) [(h, .inr (0, [.ref q0, .ref q1, .ref q2, .ref q3, .ref q4, .ref q5, .ref q6, .int 0, .int 0, .int 100, .int 60, .int 0])), (q0, .inl (cA, 4, .inl (upd (upd (upd (upd (fun _ => 0) (0 : Int32).toNatClampNeg (-1)) (1 : Int32).toNatClampNeg (-1)) (2 : Int32).toNatClampNeg (-1)) (3 : Int32).toNatClampNeg (-1)))), (q1, .inl (cA, 4, .inl (fun _ => 0))), (q2, .inl (cA, 4, .inl (fun _ => 0))), (q3, .inl (cA, 4, .inl (fun _ => 0))), (q4, .inl (cA, 4, .inl (fun _ => 0))), (q5, .inl (cA, 4, .inl (fun _ => 0))), (q6, .inl (cA, 12, .inl (fun _ => 0)))] := hD
  refine lv_aload_n hx hb dX0_init_92 rfl (lv_at hl 0 rfl) ?_
  refine lv_sipush (v := 400) hx hb dX0_init_93 (by decide) ?_
  refine va_put (D := D) (ci := 0) (v := .int 400) (ty := .int) (C := RX0) (T := TX0) (N := 12) hx hb hts hiw tyX0 tyX0_ok nmX0 hown hK hP hD hS 0 rfl rfl 11 (by decide) (hts (.fieldLink RX0 44 "TunedWrens" "leapGlide" "I") (by decide +kernel)) (fun _ h9 => h9) rfl (by decide +kernel) rfl rfl (Nat.le_of_ble_eq_true rfl) dX0_init_96 (fun H locs hP hD hS => ?_)
  have hP : va_P D vwCl [(h, .inr (0, [.ref q0, .ref q1, .ref q2, .ref q3, .ref q4, .ref q5, .ref q6, .int 0, .int 0, .int 100, .int 60, .int 400])), (q0, .inl (cA, 4, .inl (upd (upd (upd (upd (fun _ => 0) (0 : Int32).toNatClampNeg (-1)) (1 : Int32).toNatClampNeg (-1)) (2 : Int32).toNatClampNeg (-1)) (3 : Int32).toNatClampNeg (-1)))), (q1, .inl (cA, 4, .inl (fun _ => 0))), (q2, .inl (cA, 4, .inl (fun _ => 0))), (q3, .inl (cA, 4, .inl (fun _ => 0))), (q4, .inl (cA, 4, .inl (fun _ => 0))), (q5, .inl (cA, 4, .inl (fun _ => 0))), (q6, .inl (cA, 12, .inl (fun _ => 0)))] H := hP
  have hD : va_D (zA N0) [(h, .inr (0, [.ref q0, .ref q1, .ref q2, .ref q3, .ref q4, .ref q5, .ref q6, .int 0, .int 0, .int 100, .int 60, .int 400])), (q0, .inl (cA, 4, .inl (upd (upd (upd (upd (fun _ => 0) (0 : Int32).toNatClampNeg (-1)) (1 : Int32).toNatClampNeg (-1)) (2 : Int32).toNatClampNeg (-1)) (3 : Int32).toNatClampNeg (-1)))), (q1, .inl (cA, 4, .inl (fun _ => 0))), (q2, .inl (cA, 4, .inl (fun _ => 0))), (q3, .inl (cA, 4, .inl (fun _ => 0))), (q4, .inl (cA, 4, .inl (fun _ => 0))), (q5, .inl (cA, 4, .inl (fun _ => 0))), (q6, .inl (cA, 12, .inl (fun _ => 0)))] := hD
  exact W.vret hx hb hr (fun t ht hW => ⟨⟨(), rfl, trivial, ⟨zAd q0 q1 q2 q3 q4 q5 q6, cA, ⟨by rw [ht]; exact hP, hD⟩, va_K.moved hW.alike hK⟩⟩, hS.F ht⟩) hS.2.2 dX0_init_99

set_option maxHeartbeats 4000000 in
set_option maxRecDepth 100000 in
theorem c_X1_init (l : Launch) (D : va_G) (N0 h hx : Nat) (dx : Nat → Nat) (cA : ClassId) : Met l yX1_init wsX1_init ({ frames := 1, cells := 7, slots := 36, locals := 12 }) (va_Pc [.ref h] (zPre0 D N0 [(cA, .int)] ([(h, .inr (1, [.int 0, .int 0, .int 0, .int 0, .int 0, .int 0, .null, .null, .null, .null, .null, .null, .null]))] ++ (wX hx dx cA zI cI) ++ []))) (va_Qv (fun (_ : Unit) => True) (fun _ t => ∃ (d : Nat → Nat), zPost D N0 (wM h d cA 0 zI cI ++ wX hx dx cA zI cI) t) (zA N0)) 7 36 (zA N0) := by
  refine Met.ofW (cc := cX1_init) (maxL := 2) (ret := none) (by decide) rfl ?_
  intro pr e s m ag below meth cd s₁ B hml hv
  obtain ⟨rfl, hN, hP, hD, hK⟩ := hv
  have hxx := B.exec
  have hb := B.bytes
  have hr := B.returns
  have hts := atoms_spec (ws := wsX1_init) B.pre
  have hown : s.vm.findClass RX1 = some m.cls := findClass_of_methodNamed B.named
  have hlocks := B.notSynchronized
  have hin : meth.name = "<init>" := (name_of_methodNamed B.named B.method).1
  have hS : va_S (zA N0) s.heap s.heap [] := va_S.rf
  have hA : ∀ q : Nat, s.heap.size ≤ q → zA N0 q := fun q h9 => Nat.le_trans hN h9
  have hiw : ∀ w ∈ u_ws RX1 TX1 13, w ∈ wsX1_init := by decide +kernel
  have hl := lv_entry ([.ref h]) (n := 2) (Nat.le_of_ble_eq_true rfl)
  rw [lg_entry_eq]
  generalize (lg_sl ([.ref h]) ++ List.replicate (2 - (lg_sl ([.ref h])).length) Slot.unset).toArray = ls at hl ⊢
  have hl : lv_has ls 2 [(0, .ref h)] := hl
  refine lv_aload_n hxx hb dX1_init_0 rfl (lv_at hl 0 rfl) ?_
  refine W.objInit hxx hb hown (hts (.methodLink RX1 1 objectInit) (by decide +kernel)) (hts (.instanceMethod objectInit) (by decide +kernel)) (hts (.code objectInit ⟨#[0xb1]⟩ 1 none) (by decide +kernel)) rfl (by rw [hml]; exact hl.1) rfl dX1_init_1 (Nat.le_of_ble_eq_true rfl) (Nat.le_of_ble_eq_true rfl) ?_
  refine W.eq (g2 := F0 m 4 ls []) rfl ?_
  refine lv_aload_n hxx hb dX1_init_4 rfl (lv_at hl 0 rfl) ?_
  refine lv_bipush (v := 100) hxx hb dX1_init_5 (by decide) ?_
  refine va_put (D := D) (ci := 1) (v := .int 100) (ty := .int) (C := RX1) (T := TX1) (N := 13) hxx hb hts hiw tyX1 tyX1_ok nmX1 hown hK hP hD hS 0 rfl rfl 3 (by decide) (hts (.fieldLink RX1 7 "TunedWrensModel" "speed" "I") (by decide +kernel)) (fun _ h9 => h9) rfl (by decide +kernel) rfl rfl (Nat.le_of_ble_eq_true rfl) dX1_init_7 (fun H locs hP hD hS => ?_)
  have hP : va_P D vwCl ([(h, .inr (1, [.int 0, .int 0, .int 0, .int 100, .int 0, .int 0, .null, .null, .null, .null, .null, .null, .null]))] ++ (wX hx dx cA zI cI) ++ []) H := hP
  have hD : va_D (zA N0) ([(h, .inr (1, [.int 0, .int 0, .int 0, .int 100, .int 0, .int 0, .null, .null, .null, .null, .null, .null, .null]))] ++ (wX hx dx cA zI cI) ++ []) := hD
  refine lv_aload_n hxx hb dX1_init_10 rfl (lv_at hl 0 rfl) ?_
  refine lv_bipush (v := 60) hxx hb dX1_init_11 (by decide) ?_
  refine va_put (D := D) (ci := 1) (v := .int 60) (ty := .int) (C := RX1) (T := TX1) (N := 13) hxx hb hts hiw tyX1 tyX1_ok nmX1 hown hK hP hD hS 0 rfl rfl 4 (by decide) (hts (.fieldLink RX1 13 "TunedWrensModel" "leash" "I") (by decide +kernel)) (fun _ h9 => h9) rfl (by decide +kernel) rfl rfl (Nat.le_of_ble_eq_true rfl) dX1_init_13 (fun H locs hP hD hS => ?_)
  have hP : va_P D vwCl ([(h, .inr (1, [.int 0, .int 0, .int 0, .int 100, .int 60, .int 0, .null, .null, .null, .null, .null, .null, .null]))] ++ (wX hx dx cA zI cI) ++ []) H := hP
  have hD : va_D (zA N0) ([(h, .inr (1, [.int 0, .int 0, .int 0, .int 100, .int 60, .int 0, .null, .null, .null, .null, .null, .null, .null]))] ++ (wX hx dx cA zI cI) ++ []) := hD
  refine lv_aload_n hxx hb dX1_init_16 rfl (lv_at hl 0 rfl) ?_
  refine lv_sipush (v := 400) hxx hb dX1_init_17 (by decide) ?_
  refine va_put (D := D) (ci := 1) (v := .int 400) (ty := .int) (C := RX1) (T := TX1) (N := 13) hxx hb hts hiw tyX1 tyX1_ok nmX1 hown hK hP hD hS 0 rfl rfl 5 (by decide) (hts (.fieldLink RX1 16 "TunedWrensModel" "glide" "I") (by decide +kernel)) (fun _ h9 => h9) rfl (by decide +kernel) rfl rfl (Nat.le_of_ble_eq_true rfl) dX1_init_20 (fun H locs hP hD hS => ?_)
  have hP : va_P D vwCl ([(h, .inr (1, [.int 0, .int 0, .int 0, .int 100, .int 60, .int 400, .null, .null, .null, .null, .null, .null, .null]))] ++ (wX hx dx cA zI cI) ++ []) H := hP
  have hD : va_D (zA N0) ([(h, .inr (1, [.int 0, .int 0, .int 0, .int 100, .int 60, .int 400, .null, .null, .null, .null, .null, .null, .null]))] ++ (wX hx dx cA zI cI) ++ []) := hD
  refine lv_aload_n hxx hb dX1_init_23 rfl (lv_at hl 0 rfl) ?_
  refine lv_iconst (v := 4) hxx hb dX1_init_24 (by decide) ?_
  refine va_newa (atype := .int) (ty := .int) (N' := 4) (a0 := (4, .inl (fun _ => 0))) hxx hb (hts (.arrayClass .int) (by decide +kernel)) rfl hK hP hD hS hA (fun _ => rfl) (by decide) (by decide) (by decide) (Nat.le_of_ble_eq_true rfl) (Nat.le_of_ble_eq_true rfl) dX1_init_25 (fun q0 cB H hK hP hD hS => ?_)
  obtain rfl : cA = cB := (zcA hK (i := 0) (j := 1) rfl rfl).symm
  have hK : va_K D vwCl [(cA, .int)] s := hK.sub [0] rfl
  have hP : va_P D vwCl ([(h, .inr (1, [.int 0, .int 0, .int 0, .int 100, .int 60, .int 400, .null, .null, .null, .null, .null, .null, .null]))] ++ (wX hx dx cA zI cI) ++ [(q0, .inl (cA, 4, .inl (fun _ => 0)))]) H := hP
  have hD : va_D (zA N0) ([(h, .inr (1, [.int 0, .int 0, .int 0, .int 100, .int 60, .int 400, .null, .null, .null, .null, .null, .null, .null]))] ++ (wX hx dx cA zI cI) ++ [(q0, .inl (cA, 4, .inl (fun _ => 0)))]) := hD
  refine va_putF (D := D) (ci := 1) (v := .ref q0) (ty := (.array .int)) (C := RX1) (T := TX1) (N := 13) hxx hb hts hiw tyX1 tyX1_ok nmX1 hown hK hP hD hS 0 rfl rfl 6 (by decide) (hts (.fieldLink RX1 19 "TunedWrensModel" "rungs" "[I") (by decide +kernel)) (fun _ h9 => h9) rfl hin rfl (by decide +kernel) rfl rfl (Nat.le_of_ble_eq_true rfl) dX1_init_27 (fun H locs hP hD hS => ?_)
  have hP : va_P D vwCl ([(h, .inr (1, [.int 0, .int 0, .int 0, .int 100, .int 60, .int 400, .ref q0, .null, .null, .null, .null, .null, .null]))] ++ (wX hx dx cA zI cI) ++ [(q0, .inl (cA, 4, .inl (fun _ => 0)))]) H := hP
  have hD : va_D (zA N0) ([(h, .inr (1, [.int 0, .int 0, .int 0, .int 100, .int 60, .int 400, .ref q0, .null, .null, .null, .null, .null, .null]))] ++ (wX hx dx cA zI cI) ++ [(q0, .inl (cA, 4, .inl (fun _ => 0)))]) := hD
  refine lv_aload_n hxx hb dX1_init_30 rfl (lv_at hl 0 rfl) ?_
  refine lv_iconst (v := 4) hxx hb dX1_init_31 (by decide) ?_
  refine va_newa (atype := .int) (ty := .int) (N' := 4) (a0 := (4, .inl (fun _ => 0))) hxx hb (hts (.arrayClass .int) (by decide +kernel)) rfl hK hP hD hS hA (fun _ => rfl) (by decide) (by decide) (by decide) (Nat.le_of_ble_eq_true rfl) (Nat.le_of_ble_eq_true rfl) dX1_init_32 (fun q1 cB H hK hP hD hS => ?_)
  obtain rfl : cA = cB := (zcA hK (i := 0) (j := 1) rfl rfl).symm
  have hK : va_K D vwCl [(cA, .int)] s := hK.sub [0] rfl
  have hP : va_P D vwCl ([(h, .inr (1, [.int 0, .int 0, .int 0, .int 100, .int 60, .int 400, .ref q0, .null, .null, .null, .null, .null, .null]))] ++ (wX hx dx cA zI cI) ++ [(q0, .inl (cA, 4, .inl (fun _ => 0))), (q1, .inl (cA, 4, .inl (fun _ => 0)))]) H := hP
  have hD : va_D (zA N0) ([(h, .inr (1, [.int 0, .int 0, .int 0, .int 100, .int 60, .int 400, .ref q0, .null, .null, .null, .null, .null, .null]))] ++ (wX hx dx cA zI cI) ++ [(q0, .inl (cA, 4, .inl (fun _ => 0))), (q1, .inl (cA, 4, .inl (fun _ => 0)))]) := hD
  refine va_putF (D := D) (ci := 1) (v := .ref q1) (ty := (.array .int)) (C := RX1) (T := TX1) (N := 13) hxx hb hts hiw tyX1 tyX1_ok nmX1 hown hK hP hD hS 0 rfl rfl 7 (by decide) (hts (.fieldLink RX1 23 "TunedWrensModel" "nudges" "[I") (by decide +kernel)) (fun _ h9 => h9) rfl hin rfl (by decide +kernel) rfl rfl (Nat.le_of_ble_eq_true rfl) dX1_init_34 (fun H locs hP hD hS => ?_)
  have hP : va_P D vwCl ([(h, .inr (1, [.int 0, .int 0, .int 0, .int 100, .int 60, .int 400, .ref q0, .ref q1, .null, .null, .null, .null, .null]))] ++ (wX hx dx cA zI cI) ++ [(q0, .inl (cA, 4, .inl (fun _ => 0))), (q1, .inl (cA, 4, .inl (fun _ => 0)))]) H := hP
  have hD : va_D (zA N0) ([(h, .inr (1, [.int 0, .int 0, .int 0, .int 100, .int 60, .int 400, .ref q0, .ref q1, .null, .null, .null, .null, .null]))] ++ (wX hx dx cA zI cI) ++ [(q0, .inl (cA, 4, .inl (fun _ => 0))), (q1, .inl (cA, 4, .inl (fun _ => 0)))]) := hD
  refine lv_aload_n hxx hb dX1_init_37 rfl (lv_at hl 0 rfl) ?_
  refine lv_iconst (v := 4) hxx hb dX1_init_38 (by decide) ?_
  refine va_newa (atype := .int) (ty := .int) (N' := 4) (a0 := (4, .inl (fun _ => 0))) hxx hb (hts (.arrayClass .int) (by decide +kernel)) rfl hK hP hD hS hA (fun _ => rfl) (by decide) (by decide) (by decide) (Nat.le_of_ble_eq_true rfl) (Nat.le_of_ble_eq_true rfl) dX1_init_39 (fun q2 cB H hK hP hD hS => ?_)
  obtain rfl : cA = cB := (zcA hK (i := 0) (j := 1) rfl rfl).symm
  have hK : va_K D vwCl [(cA, .int)] s := hK.sub [0] rfl
  have hP : va_P D vwCl ([(h, .inr (1, [.int 0, .int 0, .int 0, .int 100, .int 60, .int 400, .ref q0, .ref q1, .null, .null, .null, .null, .null]))] ++ (wX hx dx cA zI cI) ++ [(q0, .inl (cA, 4, .inl (fun _ => 0))), (q1, .inl (cA, 4, .inl (fun _ => 0))), (q2, .inl (cA, 4, .inl (fun _ => 0)))]) H := hP
  have hD : va_D (zA N0) ([(h, .inr (1, [.int 0, .int 0, .int 0, .int 100, .int 60, .int 400, .ref q0, .ref q1, .null, .null, .null, .null, .null]))] ++ (wX hx dx cA zI cI) ++ [(q0, .inl (cA, 4, .inl (fun _ => 0))), (q1, .inl (cA, 4, .inl (fun _ => 0))), (q2, .inl (cA, 4, .inl (fun _ => 0)))]) := hD
  refine va_putF (D := D) (ci := 1) (v := .ref q2) (ty := (.array .int)) (C := RX1) (T := TX1) (N := 13) hxx hb hts hiw tyX1 tyX1_ok nmX1 hown hK hP hD hS 0 rfl rfl 8 (by decide) (hts (.fieldLink RX1 26 "TunedWrensModel" "frames" "[I") (by decide +kernel)) (fun _ h9 => h9) rfl hin rfl (by decide +kernel) rfl rfl (Nat.le_of_ble_eq_true rfl) dX1_init_41 (fun H locs hP hD hS => ?_)
  have hP : va_P D vwCl ([(h, .inr (1, [.int 0, .int 0, .int 0, .int 100, .int 60, .int 400, .ref q0, .ref q1, .ref q2, .null, .null, .null, .null]))] ++ (wX hx dx cA zI cI) ++ [(q0, .inl (cA, 4, .inl (fun _ => 0))), (q1, .inl (cA, 4, .inl (fun _ => 0))), (q2, .inl (cA, 4, .inl (fun _ => 0)))]) H := hP
  have hD : va_D (zA N0) ([(h, .inr (1, [.int 0, .int 0, .int 0, .int 100, .int 60, .int 400, .ref q0, .ref q1, .ref q2, .null, .null, .null, .null]))] ++ (wX hx dx cA zI cI) ++ [(q0, .inl (cA, 4, .inl (fun _ => 0))), (q1, .inl (cA, 4, .inl (fun _ => 0))), (q2, .inl (cA, 4, .inl (fun _ => 0)))]) := hD
  refine lv_aload_n hxx hb dX1_init_44 rfl (lv_at hl 0 rfl) ?_
  refine lv_iconst (v := 4) hxx hb dX1_init_45 (by decide) ?_
  refine va_newa (atype := .int) (ty := .int) (N' := 4) (a0 := (4, .inl (fun _ => 0))) hxx hb (hts (.arrayClass .int) (by decide +kernel)) rfl hK hP hD hS hA (fun _ => rfl) (by decide) (by decide) (by decide) (Nat.le_of_ble_eq_true rfl) (Nat.le_of_ble_eq_true rfl) dX1_init_46 (fun q3 cB H hK hP hD hS => ?_)
  obtain rfl : cA = cB := (zcA hK (i := 0) (j := 1) rfl rfl).symm
  have hK : va_K D vwCl [(cA, .int)] s := hK.sub [0] rfl
  have hP : va_P D vwCl ([(h, .inr (1, [.int 0, .int 0, .int 0, .int 100, .int 60, .int 400, .ref q0, .ref q1, .ref q2, .null, .null, .null, .null]))] ++ (wX hx dx cA zI cI) ++ [(q0, .inl (cA, 4, .inl (fun _ => 0))), (q1, .inl (cA, 4, .inl (fun _ => 0))), (q2, .inl (cA, 4, .inl (fun _ => 0))), (q3, .inl (cA, 4, .inl (fun _ => 0)))]) H := hP
  have hD : va_D (zA N0) ([(h, .inr (1, [.int 0, .int 0, .int 0, .int 100, .int 60, .int 400, .ref q0, .ref q1, .ref q2, .null, .null, .null, .null]))] ++ (wX hx dx cA zI cI) ++ [(q0, .inl (cA, 4, .inl (fun _ => 0))), (q1, .inl (cA, 4, .inl (fun _ => 0))), (q2, .inl (cA, 4, .inl (fun _ => 0))), (q3, .inl (cA, 4, .inl (fun _ => 0)))]) := hD
  refine va_putF (D := D) (ci := 1) (v := .ref q3) (ty := (.array .int)) (C := RX1) (T := TX1) (N := 13) hxx hb hts hiw tyX1 tyX1_ok nmX1 hown hK hP hD hS 0 rfl rfl 9 (by decide) (hts (.fieldLink RX1 29 "TunedWrensModel" "changes" "[I") (by decide +kernel)) (fun _ h9 => h9) rfl hin rfl (by decide +kernel) rfl rfl (Nat.le_of_ble_eq_true rfl) dX1_init_48 (fun H locs hP hD hS => ?_)
  have hP : va_P D vwCl ([(h, .inr (1, [.int 0, .int 0, .int 0, .int 100, .int 60, .int 400, .ref q0, .ref q1, .ref q2, .ref q3, .null, .null, .null]))] ++ (wX hx dx cA zI cI) ++ [(q0, .inl (cA, 4, .inl (fun _ => 0))), (q1, .inl (cA, 4, .inl (fun _ => 0))), (q2, .inl (cA, 4, .inl (fun _ => 0))), (q3, .inl (cA, 4, .inl (fun _ => 0)))]) H := hP
  have hD : va_D (zA N0) ([(h, .inr (1, [.int 0, .int 0, .int 0, .int 100, .int 60, .int 400, .ref q0, .ref q1, .ref q2, .ref q3, .null, .null, .null]))] ++ (wX hx dx cA zI cI) ++ [(q0, .inl (cA, 4, .inl (fun _ => 0))), (q1, .inl (cA, 4, .inl (fun _ => 0))), (q2, .inl (cA, 4, .inl (fun _ => 0))), (q3, .inl (cA, 4, .inl (fun _ => 0)))]) := hD
  refine lv_aload_n hxx hb dX1_init_51 rfl (lv_at hl 0 rfl) ?_
  refine lv_iconst (v := 4) hxx hb dX1_init_52 (by decide) ?_
  refine va_newa (atype := .int) (ty := .int) (N' := 4) (a0 := (4, .inl (fun _ => 0))) hxx hb (hts (.arrayClass .int) (by decide +kernel)) rfl hK hP hD hS hA (fun _ => rfl) (by decide) (by decide) (by decide) (Nat.le_of_ble_eq_true rfl) (Nat.le_of_ble_eq_true rfl) dX1_init_53 (fun q4 cB H hK hP hD hS => ?_)
  obtain rfl : cA = cB := (zcA hK (i := 0) (j := 1) rfl rfl).symm
  have hK : va_K D vwCl [(cA, .int)] s := hK.sub [0] rfl
  have hP : va_P D vwCl ([(h, .inr (1, [.int 0, .int 0, .int 0, .int 100, .int 60, .int 400, .ref q0, .ref q1, .ref q2, .ref q3, .null, .null, .null]))] ++ (wX hx dx cA zI cI) ++ [(q0, .inl (cA, 4, .inl (fun _ => 0))), (q1, .inl (cA, 4, .inl (fun _ => 0))), (q2, .inl (cA, 4, .inl (fun _ => 0))), (q3, .inl (cA, 4, .inl (fun _ => 0))), (q4, .inl (cA, 4, .inl (fun _ => 0)))]) H := hP
  have hD : va_D (zA N0) ([(h, .inr (1, [.int 0, .int 0, .int 0, .int 100, .int 60, .int 400, .ref q0, .ref q1, .ref q2, .ref q3, .null, .null, .null]))] ++ (wX hx dx cA zI cI) ++ [(q0, .inl (cA, 4, .inl (fun _ => 0))), (q1, .inl (cA, 4, .inl (fun _ => 0))), (q2, .inl (cA, 4, .inl (fun _ => 0))), (q3, .inl (cA, 4, .inl (fun _ => 0))), (q4, .inl (cA, 4, .inl (fun _ => 0)))]) := hD
  refine va_putF (D := D) (ci := 1) (v := .ref q4) (ty := (.array .int)) (C := RX1) (T := TX1) (N := 13) hxx hb hts hiw tyX1 tyX1_ok nmX1 hown hK hP hD hS 0 rfl rfl 10 (by decide) (hts (.fieldLink RX1 32 "TunedWrensModel" "leaps" "[I") (by decide +kernel)) (fun _ h9 => h9) rfl hin rfl (by decide +kernel) rfl rfl (Nat.le_of_ble_eq_true rfl) dX1_init_55 (fun H locs hP hD hS => ?_)
  have hP : va_P D vwCl ([(h, .inr (1, [.int 0, .int 0, .int 0, .int 100, .int 60, .int 400, .ref q0, .ref q1, .ref q2, .ref q3, .ref q4, .null, .null]))] ++ (wX hx dx cA zI cI) ++ [(q0, .inl (cA, 4, .inl (fun _ => 0))), (q1, .inl (cA, 4, .inl (fun _ => 0))), (q2, .inl (cA, 4, .inl (fun _ => 0))), (q3, .inl (cA, 4, .inl (fun _ => 0))), (q4, .inl (cA, 4, .inl (fun _ => 0)))]) H := hP
  have hD : va_D (zA N0) ([(h, .inr (1, [.int 0, .int 0, .int 0, .int 100, .int 60, .int 400, .ref q0, .ref q1, .ref q2, .ref q3, .ref q4, .null, .null]))] ++ (wX hx dx cA zI cI) ++ [(q0, .inl (cA, 4, .inl (fun _ => 0))), (q1, .inl (cA, 4, .inl (fun _ => 0))), (q2, .inl (cA, 4, .inl (fun _ => 0))), (q3, .inl (cA, 4, .inl (fun _ => 0))), (q4, .inl (cA, 4, .inl (fun _ => 0)))]) := hD
  refine lv_aload_n hxx hb dX1_init_58 rfl (lv_at hl 0 rfl) ?_
  refine lv_iconst (v := 4) hxx hb dX1_init_59 (by decide) ?_
  refine va_newa (atype := .int) (ty := .int) (N' := 4) (a0 := (4, .inl (fun _ => 0))) hxx hb (hts (.arrayClass .int) (by decide +kernel)) rfl hK hP hD hS hA (fun _ => rfl) (by decide) (by decide) (by decide) (Nat.le_of_ble_eq_true rfl) (Nat.le_of_ble_eq_true rfl) dX1_init_60 (fun q5 cB H hK hP hD hS => ?_)
  obtain rfl : cA = cB := (zcA hK (i := 0) (j := 1) rfl rfl).symm
  have hK : va_K D vwCl [(cA, .int)] s := hK.sub [0] rfl
  have hP : va_P D vwCl ([(h, .inr (1, [.int 0, .int 0, .int 0, .int 100, .int 60, .int 400, .ref q0, .ref q1, .ref q2, .ref q3, .ref q4, .null, .null]))] ++ (wX hx dx cA zI cI) ++ [(q0, .inl (cA, 4, .inl (fun _ => 0))), (q1, .inl (cA, 4, .inl (fun _ => 0))), (q2, .inl (cA, 4, .inl (fun _ => 0))), (q3, .inl (cA, 4, .inl (fun _ => 0))), (q4, .inl (cA, 4, .inl (fun _ => 0))), (q5, .inl (cA, 4, .inl (fun _ => 0)))]) H := hP
  have hD : va_D (zA N0) ([(h, .inr (1, [.int 0, .int 0, .int 0, .int 100, .int 60, .int 400, .ref q0, .ref q1, .ref q2, .ref q3, .ref q4, .null, .null]))] ++ (wX hx dx cA zI cI) ++ [(q0, .inl (cA, 4, .inl (fun _ => 0))), (q1, .inl (cA, 4, .inl (fun _ => 0))), (q2, .inl (cA, 4, .inl (fun _ => 0))), (q3, .inl (cA, 4, .inl (fun _ => 0))), (q4, .inl (cA, 4, .inl (fun _ => 0))), (q5, .inl (cA, 4, .inl (fun _ => 0)))]) := hD
  refine va_putF (D := D) (ci := 1) (v := .ref q5) (ty := (.array .int)) (C := RX1) (T := TX1) (N := 13) hxx hb hts hiw tyX1 tyX1_ok nmX1 hown hK hP hD hS 0 rfl rfl 11 (by decide) (hts (.fieldLink RX1 35 "TunedWrensModel" "clean" "[I") (by decide +kernel)) (fun _ h9 => h9) rfl hin rfl (by decide +kernel) rfl rfl (Nat.le_of_ble_eq_true rfl) dX1_init_62 (fun H locs hP hD hS => ?_)
  have hP : va_P D vwCl ([(h, .inr (1, [.int 0, .int 0, .int 0, .int 100, .int 60, .int 400, .ref q0, .ref q1, .ref q2, .ref q3, .ref q4, .ref q5, .null]))] ++ (wX hx dx cA zI cI) ++ [(q0, .inl (cA, 4, .inl (fun _ => 0))), (q1, .inl (cA, 4, .inl (fun _ => 0))), (q2, .inl (cA, 4, .inl (fun _ => 0))), (q3, .inl (cA, 4, .inl (fun _ => 0))), (q4, .inl (cA, 4, .inl (fun _ => 0))), (q5, .inl (cA, 4, .inl (fun _ => 0)))]) H := hP
  have hD : va_D (zA N0) ([(h, .inr (1, [.int 0, .int 0, .int 0, .int 100, .int 60, .int 400, .ref q0, .ref q1, .ref q2, .ref q3, .ref q4, .ref q5, .null]))] ++ (wX hx dx cA zI cI) ++ [(q0, .inl (cA, 4, .inl (fun _ => 0))), (q1, .inl (cA, 4, .inl (fun _ => 0))), (q2, .inl (cA, 4, .inl (fun _ => 0))), (q3, .inl (cA, 4, .inl (fun _ => 0))), (q4, .inl (cA, 4, .inl (fun _ => 0))), (q5, .inl (cA, 4, .inl (fun _ => 0)))]) := hD
  refine lv_aload_n hxx hb dX1_init_65 rfl (lv_at hl 0 rfl) ?_
  refine lv_bipush (v := 12) hxx hb dX1_init_66 (by decide) ?_
  refine va_newa (atype := .int) (ty := .int) (N' := 12) (a0 := (12, .inl (fun _ => 0))) hxx hb (hts (.arrayClass .int) (by decide +kernel)) rfl hK hP hD hS hA (fun _ => rfl) (by decide) (by decide) (by decide) (Nat.le_of_ble_eq_true rfl) (Nat.le_of_ble_eq_true rfl) dX1_init_68 (fun q6 cB H hK hP hD hS => ?_)
  obtain rfl : cA = cB := (zcA hK (i := 0) (j := 1) rfl rfl).symm
  have hK : va_K D vwCl [(cA, .int)] s := hK.sub [0] rfl
  have hP : va_P D vwCl ([(h, .inr (1, [.int 0, .int 0, .int 0, .int 100, .int 60, .int 400, .ref q0, .ref q1, .ref q2, .ref q3, .ref q4, .ref q5, .null]))] ++ (wX hx dx cA zI cI) ++ [(q0, .inl (cA, 4, .inl (fun _ => 0))), (q1, .inl (cA, 4, .inl (fun _ => 0))), (q2, .inl (cA, 4, .inl (fun _ => 0))), (q3, .inl (cA, 4, .inl (fun _ => 0))), (q4, .inl (cA, 4, .inl (fun _ => 0))), (q5, .inl (cA, 4, .inl (fun _ => 0))), (q6, .inl (cA, 12, .inl (fun _ => 0)))]) H := hP
  have hD : va_D (zA N0) ([(h, .inr (1, [.int 0, .int 0, .int 0, .int 100, .int 60, .int 400, .ref q0, .ref q1, .ref q2, .ref q3, .ref q4, .ref q5, .null]))] ++ (wX hx dx cA zI cI) ++ [(q0, .inl (cA, 4, .inl (fun _ => 0))), (q1, .inl (cA, 4, .inl (fun _ => 0))), (q2, .inl (cA, 4, .inl (fun _ => 0))), (q3, .inl (cA, 4, .inl (fun _ => 0))), (q4, .inl (cA, 4, .inl (fun _ => 0))), (q5, .inl (cA, 4, .inl (fun _ => 0))), (q6, .inl (cA, 12, .inl (fun _ => 0)))]) := hD
  refine va_putF (D := D) (ci := 1) (v := .ref q6) (ty := (.array .int)) (C := RX1) (T := TX1) (N := 13) hxx hb hts hiw tyX1 tyX1_ok nmX1 hown hK hP hD hS 0 rfl rfl 12 (by decide) (hts (.fieldLink RX1 38 "TunedWrensModel" "semitones" "[I") (by decide +kernel)) (fun _ h9 => h9) rfl hin rfl (by decide +kernel) rfl rfl (Nat.le_of_ble_eq_true rfl) dX1_init_70 (fun H locs hP hD hS => ?_)
  have hP : va_P D vwCl ([(h, .inr (1, [.int 0, .int 0, .int 0, .int 100, .int 60, .int 400, .ref q0, .ref q1, .ref q2, .ref q3, .ref q4, .ref q5, .ref q6]))] ++ (wX hx dx cA zI cI) ++ [(q0, .inl (cA, 4, .inl (fun _ => 0))), (q1, .inl (cA, 4, .inl (fun _ => 0))), (q2, .inl (cA, 4, .inl (fun _ => 0))), (q3, .inl (cA, 4, .inl (fun _ => 0))), (q4, .inl (cA, 4, .inl (fun _ => 0))), (q5, .inl (cA, 4, .inl (fun _ => 0))), (q6, .inl (cA, 12, .inl (fun _ => 0)))]) H := hP
  have hD : va_D (zA N0) ([(h, .inr (1, [.int 0, .int 0, .int 0, .int 100, .int 60, .int 400, .ref q0, .ref q1, .ref q2, .ref q3, .ref q4, .ref q5, .ref q6]))] ++ (wX hx dx cA zI cI) ++ [(q0, .inl (cA, 4, .inl (fun _ => 0))), (q1, .inl (cA, 4, .inl (fun _ => 0))), (q2, .inl (cA, 4, .inl (fun _ => 0))), (q3, .inl (cA, 4, .inl (fun _ => 0))), (q4, .inl (cA, 4, .inl (fun _ => 0))), (q5, .inl (cA, 4, .inl (fun _ => 0))), (q6, .inl (cA, 12, .inl (fun _ => 0)))]) := hD
  refine lv_iconst (v := 0) hxx hb dX1_init_73 (by decide) ?_
  refine lv_istore_n (lv' := [(1, .int 0), (0, .ref h)]) hxx hb dX1_init_74 rfl hl (by decide) rfl (fun ls hl => ?_)
  refine lv_iload_n hxx hb dX1_init_75 rfl (lv_at hl 0 rfl) ?_
  refine lv_iconst (v := 4) hxx hb dX1_init_76 (by decide) ?_
  refine lv_icmp_ge (tgt := 93) hxx hb dX1_init_77 (by decide) (fun c => absurd c (by decide)) (fun _ => ?_)
  refine lv_aload_n hxx hb dX1_init_80 rfl (lv_at hl 1 rfl) ?_
  refine va_get (D := D) (ci := 1) (v := .ref q0) (C := RX1) (T := TX1) (N := 13) hxx hb hts hiw hown hK hP 0 rfl rfl 6 (by decide) (hts (.fieldLink RX1 19 "TunedWrensModel" "rungs" "[I") (by decide +kernel)) (fun _ h9 => h9) rfl dX1_init_81 ?_
  refine lv_iload_n hxx hb dX1_init_84 rfl (lv_at hl 0 rfl) ?_
  refine lv_iconst (v := (-1)) hxx hb dX1_init_85 (by decide) ?_
  refine va_iast hxx hb hK hP hD hS 9 0 rfl rfl (vp_in_nI (n := 0) (by decide) (by decide)) dX1_init_86 (fun H locs hP hD hS => ?_)
  have hP : va_P D vwCl ([(h, .inr (1, [.int 0, .int 0, .int 0, .int 100, .int 60, .int 400, .ref q0, .ref q1, .ref q2, .ref q3, .ref q4, .ref q5, .ref q6]))] ++ (wX hx dx cA zI cI) ++ [(q0, .inl (cA, 4, .inl (upd (fun _ => 0) (0 : Int32).toNatClampNeg (-1)))), (q1, .inl (cA, 4, .inl (fun _ => 0))), (q2, .inl (cA, 4, .inl (fun _ => 0))), (q3, .inl (cA, 4, .inl (fun _ => 0))), (q4, .inl (cA, 4, .inl (fun _ => 0))), (q5, .inl (cA, 4, .inl (fun _ => 0))), (q6, .inl (cA, 12, .inl (fun _ => 0)))]) H := hP
  have hD : va_D (zA N0) ([(h, .inr (1, [.int 0, .int 0, .int 0, .int 100, .int 60, .int 400, .ref q0, .ref q1, .ref q2, .ref q3, .ref q4, .ref q5, .ref q6]))] ++ (wX hx dx cA zI cI) ++ [(q0, .inl (cA, 4, .inl (upd (fun _ => 0) (0 : Int32).toNatClampNeg (-1)))), (q1, .inl (cA, 4, .inl (fun _ => 0))), (q2, .inl (cA, 4, .inl (fun _ => 0))), (q3, .inl (cA, 4, .inl (fun _ => 0))), (q4, .inl (cA, 4, .inl (fun _ => 0))), (q5, .inl (cA, 4, .inl (fun _ => 0))), (q6, .inl (cA, 12, .inl (fun _ => 0)))]) := hD
  refine lv_iinc (v := 1) (lv' := [(1, .int 1), (0, .ref h)]) hxx hb dX1_init_87 hl (k := 0) rfl rfl (by decide) rfl (fun ls hl => ?_)
  refine lv_goto (tgt := 75) hxx hb dX1_init_90 (by decide) ?_
  refine lv_iload_n hxx hb dX1_init_75 rfl (lv_at hl 0 rfl) ?_
  refine lv_iconst (v := 4) hxx hb dX1_init_76 (by decide) ?_
  refine lv_icmp_ge (tgt := 93) hxx hb dX1_init_77 (by decide) (fun c => absurd c (by decide)) (fun _ => ?_)
  refine lv_aload_n hxx hb dX1_init_80 rfl (lv_at hl 1 rfl) ?_
  refine va_get (D := D) (ci := 1) (v := .ref q0) (C := RX1) (T := TX1) (N := 13) hxx hb hts hiw hown hK hP 0 rfl rfl 6 (by decide) (hts (.fieldLink RX1 19 "TunedWrensModel" "rungs" "[I") (by decide +kernel)) (fun _ h9 => h9) rfl dX1_init_81 ?_
  refine lv_iload_n hxx hb dX1_init_84 rfl (lv_at hl 0 rfl) ?_
  refine lv_iconst (v := (-1)) hxx hb dX1_init_85 (by decide) ?_
  refine va_iast hxx hb hK hP hD hS 9 0 rfl rfl (vp_in_nI (n := 1) (by decide) (by decide)) dX1_init_86 (fun H locs hP hD hS => ?_)
  have hP : va_P D vwCl ([(h, .inr (1, [.int 0, .int 0, .int 0, .int 100, .int 60, .int 400, .ref q0, .ref q1, .ref q2, .ref q3, .ref q4, .ref q5, .ref q6]))] ++ (wX hx dx cA zI cI) ++ [(q0, .inl (cA, 4, .inl (upd (upd (fun _ => 0) (0 : Int32).toNatClampNeg (-1)) (1 : Int32).toNatClampNeg (-1)))), (q1, .inl (cA, 4, .inl (fun _ => 0))), (q2, .inl (cA, 4, .inl (fun _ => 0))), (q3, .inl (cA, 4, .inl (fun _ => 0))), (q4, .inl (cA, 4, .inl (fun _ => 0))), (q5, .inl (cA, 4, .inl (fun _ => 0))), (q6, .inl (cA, 12, .inl (fun _ => 0)))]) H := hP
  have hD : va_D (zA N0) ([(h, .inr (1, [.int 0, .int 0, .int 0, .int 100, .int 60, .int 400, .ref q0, .ref q1, .ref q2, .ref q3, .ref q4, .ref q5, .ref q6]))] ++ (wX hx dx cA zI cI) ++ [(q0, .inl (cA, 4, .inl (upd (upd (fun _ => 0) (0 : Int32).toNatClampNeg (-1)) (1 : Int32).toNatClampNeg (-1)))), (q1, .inl (cA, 4, .inl (fun _ => 0))), (q2, .inl (cA, 4, .inl (fun _ => 0))), (q3, .inl (cA, 4, .inl (fun _ => 0))), (q4, .inl (cA, 4, .inl (fun _ => 0))), (q5, .inl (cA, 4, .inl (fun _ => 0))), (q6, .inl (cA, 12, .inl (fun _ => 0)))]) := hD
  refine lv_iinc (v := 2) (lv' := [(1, .int 2), (0, .ref h)]) hxx hb dX1_init_87 hl (k := 0) rfl rfl (by decide) rfl (fun ls hl => ?_)
  refine lv_goto (tgt := 75) hxx hb dX1_init_90 (by decide) ?_
  refine lv_iload_n hxx hb dX1_init_75 rfl (lv_at hl 0 rfl) ?_
  refine lv_iconst (v := 4) hxx hb dX1_init_76 (by decide) ?_
  refine lv_icmp_ge (tgt := 93) hxx hb dX1_init_77 (by decide) (fun c => absurd c (by decide)) (fun _ => ?_)
  refine lv_aload_n hxx hb dX1_init_80 rfl (lv_at hl 1 rfl) ?_
  refine va_get (D := D) (ci := 1) (v := .ref q0) (C := RX1) (T := TX1) (N := 13) hxx hb hts hiw hown hK hP 0 rfl rfl 6 (by decide) (hts (.fieldLink RX1 19 "TunedWrensModel" "rungs" "[I") (by decide +kernel)) (fun _ h9 => h9) rfl dX1_init_81 ?_
  refine lv_iload_n hxx hb dX1_init_84 rfl (lv_at hl 0 rfl) ?_
  refine lv_iconst (v := (-1)) hxx hb dX1_init_85 (by decide) ?_
  refine va_iast hxx hb hK hP hD hS 9 0 rfl rfl (vp_in_nI (n := 2) (by decide) (by decide)) dX1_init_86 (fun H locs hP hD hS => ?_)
  have hP : va_P D vwCl ([(h, .inr (1, [.int 0, .int 0, .int 0, .int 100, .int 60, .int 400, .ref q0, .ref q1, .ref q2, .ref q3, .ref q4, .ref q5, .ref q6]))] ++ (wX hx dx cA zI cI) ++ [(q0, .inl (cA, 4, .inl (upd (upd (upd (fun _ => 0) (0 : Int32).toNatClampNeg (-1)) (1 : Int32).toNatClampNeg (-1)) (2 : Int32).toNatClampNeg (-1)))), (q1, .inl (cA, 4, .inl (fun _ => 0))), (q2, .inl (cA, 4, .inl (fun _ => 0))), (q3, .inl (cA, 4, .inl (fun _ => 0))), (q4, .inl (cA, 4, .inl (fun _ => 0))), (q5, .inl (cA, 4, .inl (fun _ => 0))), (q6, .inl (cA, 12, .inl (fun _ => 0)))]) H := hP
  have hD : va_D (zA N0) ([(h, .inr (1, [.int 0, .int 0, .int 0, .int 100, .int 60, .int 400, .ref q0, .ref q1, .ref q2, .ref q3, .ref q4, .ref q5, .ref q6]))] ++ (wX hx dx cA zI cI) ++ [(q0, .inl (cA, 4, .inl (upd (upd (upd (fun _ => 0) (0 : Int32).toNatClampNeg (-1)) (1 : Int32).toNatClampNeg (-1)) (2 : Int32).toNatClampNeg (-1)))), (q1, .inl (cA, 4, .inl (fun _ => 0))), (q2, .inl (cA, 4, .inl (fun _ => 0))), (q3, .inl (cA, 4, .inl (fun _ => 0))), (q4, .inl (cA, 4, .inl (fun _ => 0))), (q5, .inl (cA, 4, .inl (fun _ => 0))), (q6, .inl (cA, 12, .inl (fun _ => 0)))]) := hD
  refine lv_iinc (v := 3) (lv' := [(1, .int 3), (0, .ref h)]) hxx hb dX1_init_87 hl (k := 0) rfl rfl (by decide) rfl (fun ls hl => ?_)
  refine lv_goto (tgt := 75) hxx hb dX1_init_90 (by decide) ?_
  refine lv_iload_n hxx hb dX1_init_75 rfl (lv_at hl 0 rfl) ?_
  refine lv_iconst (v := 4) hxx hb dX1_init_76 (by decide) ?_
  refine lv_icmp_ge (tgt := 93) hxx hb dX1_init_77 (by decide) (fun c => absurd c (by decide)) (fun _ => ?_)
  refine lv_aload_n hxx hb dX1_init_80 rfl (lv_at hl 1 rfl) ?_
  refine va_get (D := D) (ci := 1) (v := .ref q0) (C := RX1) (T := TX1) (N := 13) hxx hb hts hiw hown hK hP 0 rfl rfl 6 (by decide) (hts (.fieldLink RX1 19 "TunedWrensModel" "rungs" "[I") (by decide +kernel)) (fun _ h9 => h9) rfl dX1_init_81 ?_
  refine lv_iload_n hxx hb dX1_init_84 rfl (lv_at hl 0 rfl) ?_
  refine lv_iconst (v := (-1)) hxx hb dX1_init_85 (by decide) ?_
  refine va_iast hxx hb hK hP hD hS 9 0 rfl rfl (vp_in_nI (n := 3) (by decide) (by decide)) dX1_init_86 (fun H locs hP hD hS => ?_)
  have hP : va_P D vwCl ([(h, .inr (1, [.int 0, .int 0, .int 0, .int 100, .int 60, .int 400, .ref q0, .ref q1, .ref q2, .ref q3, .ref q4, .ref q5, .ref q6]))] ++ (wX hx dx cA zI cI) ++ [(q0, .inl (cA, 4, .inl (upd (upd (upd (upd (fun _ => 0) (0 : Int32).toNatClampNeg (-1)) (1 : Int32).toNatClampNeg (-1)) (2 : Int32).toNatClampNeg (-1)) (3 : Int32).toNatClampNeg (-1)))), (q1, .inl (cA, 4, .inl (fun _ => 0))), (q2, .inl (cA, 4, .inl (fun _ => 0))), (q3, .inl (cA, 4, .inl (fun _ => 0))), (q4, .inl (cA, 4, .inl (fun _ => 0))), (q5, .inl (cA, 4, .inl (fun _ => 0))), (q6, .inl (cA, 12, .inl (fun _ => 0)))]) H := hP
  have hD : va_D (zA N0) ([(h, .inr (1, [.int 0, .int 0, .int 0, .int 100, .int 60, .int 400, .ref q0, .ref q1, .ref q2, .ref q3, .ref q4, .ref q5, .ref q6]))] ++ (wX hx dx cA zI cI) ++ [(q0, .inl (cA, 4, .inl (upd (upd (upd (upd (fun _ => 0) (0 : Int32).toNatClampNeg (-1)) (1 : Int32).toNatClampNeg (-1)) (2 : Int32).toNatClampNeg (-1)) (3 : Int32).toNatClampNeg (-1)))), (q1, .inl (cA, 4, .inl (fun _ => 0))), (q2, .inl (cA, 4, .inl (fun _ => 0))), (q3, .inl (cA, 4, .inl (fun _ => 0))), (q4, .inl (cA, 4, .inl (fun _ => 0))), (q5, .inl (cA, 4, .inl (fun _ => 0))), (q6, .inl (cA, 12, .inl (fun _ => 0)))]) := hD
  refine lv_iinc (v := 4) (lv' := [(1, .int 4), (0, .ref h)]) hxx hb dX1_init_87 hl (k := 0) rfl rfl (by decide) rfl (fun ls hl => ?_)
  refine lv_goto (tgt := 75) hxx hb dX1_init_90 (by decide) ?_
  refine lv_iload_n hxx hb dX1_init_75 rfl (lv_at hl 0 rfl) ?_
  refine lv_iconst (v := 4) hxx hb dX1_init_76 (by decide) ?_
  refine lv_icmp_ge (tgt := 93) hxx hb dX1_init_77 (by decide) (fun _ => ?_) (fun c => absurd c (by decide))
  have hP : va_P D vwCl (wM h (zAd q0 q1 q2 q3 q4 q5 q6) cA 0 zI cI ++ wX hx dx cA zI cI) H := hP.sub [0, 9, 10, 11, 12, 13, 14, 15, 1, 2, 3, 4, 5, 6, 7, 8] rfl
  have hD : va_D (zA N0) (wM h (zAd q0 q1 q2 q3 q4 q5 q6) cA 0 zI cI ++ wX hx dx cA zI cI) := hD.sub [0, 9, 10, 11, 12, 13, 14, 15, 1, 2, 3, 4, 5, 6, 7, 8] (by decide) rfl
  exact W.vret hxx hb hr (fun t ht hW => ⟨⟨(), rfl, trivial, ⟨zAd q0 q1 q2 q3 q4 q5 q6, ⟨by rw [ht]; exact hP, hD⟩⟩⟩, hS.F ht⟩) hS.2.2 dX1_init_93
