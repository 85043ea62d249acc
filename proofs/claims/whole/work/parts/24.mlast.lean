theorem zac (a b c : Int32) : a + b + c = a + c + b := by
  rw [Int32.add_assoc, Int32.add_comm b c, ← Int32.add_assoc]
theorem zNext_idem (c : C5) (r p : Int32) : zNext c (zNext c r p) p = zNext c r p := by
  by_cases q : ¬ r = -1 ∧ zAbs (p - r) ≤ c.2.2.2.1
  · rw [← zNext_k q, ← zNext_k q]
  · rw [← zNext_n q]
    by_cases q2 : ¬ zNear c p = -1 ∧ zAbs (p - zNear c p) ≤ c.2.2.2.1
    · exact (zNext_k q2).symm
    · exact (zNext_n q2).symm

set_option maxHeartbeats 4000000 in
set_option maxRecDepth 100000 in
theorem c_X1_inOctaves (l : Launch) (D : va_G) (N0 : Nat) (cA cL : ClassId) (E : va_W) (h : Nat) (d : Nat → Nat) (th : Int32) (z : S7) (c : C5) (hz : okZ z) : Met l yX1_inOctaves wsX1_inOctaves ({ frames := 0, cells := 0, slots := 0, locals := 0 }) (va_Pc [.ref h] (zPre D N0 cA cL (wM h d cA (th) z c ++ E))) (va_Qi (fun (rv : Int32) (_ : Unit) => rv = zIO z.1) (fun _ t => zPost D N0 (wM h d cA (0) z c ++ E) t) (zA N0)) 0 0 (zA N0) := by
  refine Met.ofW (cc := cX1_inOctaves) (maxL := 4) (ret := (some .int)) (by decide) rfl ?_
  intro pr e s m ag below meth cd s₁ B hml hv
  obtain ⟨rfl, hN, hP, hD, hK, hE⟩ := hv
  have hx := B.exec
  have hb := B.bytes
  have hr := B.returns
  have hts := atoms_spec (ws := wsX1_inOctaves) B.pre
  have hown : s.vm.findClass RX1 = some m.cls := findClass_of_methodNamed B.named
  have hlocks := B.notSynchronized
  have hS : va_S (zA N0) s.heap s.heap [] := va_S.rf
  have hiw : ∀ w ∈ u_ws RX1 TX1 13, w ∈ wsX1_inOctaves := by decide +kernel
  have hl := lv_entry ([.ref h]) (n := 4) (Nat.le_of_ble_eq_true rfl)
  rw [lg_entry_eq]
  generalize (lg_sl ([.ref h]) ++ List.replicate (4 - (lg_sl ([.ref h])).length) Slot.unset).toArray = ls at hl ⊢
  have hl : lv_has ls 4 [(0, .ref h)] := hl
  have bk : ∀ (H : Heap) (locs : List Loc), va_P D vwCl (wM h d cA (0) z c ++ E) H → va_D (zA N0) (wM h d cA (0) z c ++ E) → va_S (zA N0) s.heap H locs → ∀ (i j : Nat) (x : Int32), i < 4 → j < 4 → (∀ (ls : Array Slot), lv_has ls 4 [(1, .int (x + zb (zOct (z.1 j) (z.1 i)))), (3, .int (nI (j + 1))), (2, .int (nI i)), (0, .ref h)] → W pr l e (headSpec wsX1_inOctaves ({ frames := 0, cells := 0, slots := 0, locals := 0 })).room s m ([.ref h] : List Value).toArray below meth cd H locs 0 0 (MQ below (va_Qi (fun (rv : Int32) (_ : Unit) => rv = zIO z.1) (fun _ t => zPost D N0 (wM h d cA (0) z c ++ E) t) (zA N0)) ([.ref h] : List Value).toArray s 0 0 (zA N0)) (F0 m 16 ls [])) → ∀ (ls : Array Slot), lv_has ls 4 [(1, .int x), (3, .int (nI j)), (2, .int (nI i)), (0, .ref h)] → W pr l e (headSpec wsX1_inOctaves ({ frames := 0, cells := 0, slots := 0, locals := 0 })).room s m ([.ref h] : List Value).toArray below meth cd H locs 0 0 (MQ below (va_Qi (fun (rv : Int32) (_ : Unit) => rv = zIO z.1) (fun _ t => zPost D N0 (wM h d cA (0) z c ++ E) t) (zA N0)) ([.ref h] : List Value).toArray s 0 0 (zA N0)) (F0 m 21 ls []) := by
    intro H locs hP hD hS i j x hi hj kk ls hl
    refine lv_iload_n hx hb dX1_inOctaves_21 rfl (lv_at hl 0 rfl) ?_
    refine lv_aload_n hx hb dX1_inOctaves_22 rfl (lv_at hl 3 rfl) ?_
    refine va_get (D := D) (ci := 1) (v := .ref (d 0)) (C := RX1) (T := TX1) (N := 13) hx hb hts hiw hown hK hP 0 rfl rfl 6 (by decide) (hts (.fieldLink RX1 19 "TunedWrensModel" "rungs" "[I") (by decide +kernel)) (fun _ h9 => h9) rfl dX1_inOctaves_23 ?_
    refine lv_iload_n hx hb dX1_inOctaves_26 rfl (lv_at hl 2 rfl) ?_
    refine va_iald hx hb hK hP 1 0 rfl rfl (vp_in_nI hi (by decide)) dX1_inOctaves_27 ?_
    rw [show ((z.1 (nI i).toNatClampNeg) : Int32) = (z.1 i) from (by rw [nI_clamp (by omega)])]
    refine lv_if_lt (tgt := 64) hx hb dX1_inOctaves_28 (by decide) (fun c_28 => ?_) (fun c_28 => ?_)
    · refine lv_iconst (v := 0) hx hb dX1_inOctaves_64 (by decide) ?_
      refine lv_iadd hx hb dX1_inOctaves_65 ?_
      refine lv_istore_n (lv' := [(1, .int (x + 0)), (3, .int (nI j)), (2, .int (nI i)), (0, .ref h)]) hx hb dX1_inOctaves_66 rfl hl (by decide) rfl (fun ls hl => ?_)
      refine lv_iinc (v := (nI (j + 1))) (lv' := [(3, .int (nI (j + 1))), (1, .int (x + 0)), (2, .int (nI i)), (0, .ref h)]) hx hb dX1_inOctaves_67 hl (k := 1) rfl (z_inc j 1) (by decide) rfl (fun ls hl => ?_)
      refine lv_goto (tgt := 16) hx hb dX1_inOctaves_70 (by decide) ?_
      have hl : lv_has ls 4 [(3, .int (nI (j + 1))), (1, .int (x + zb (zOct (z.1 j) (z.1 i)))), (2, .int (nI i)), (0, .ref h)] := by
        rw [show ((x + zb (zOct (z.1 j) (z.1 i))) : Int32) = (x + 0) from (by rw [zb_0 (fun q => ((zOct_M (hz i) (hz j)).mpr q).1 c_28)])]
        exact hl
      exact kk ls (lv_sub hl [1, 0, 2, 3] rfl)
    · refine lv_aload_n hx hb dX1_inOctaves_31 rfl (lv_at hl 3 rfl) ?_
      refine va_get (D := D) (ci := 1) (v := .ref (d 0)) (C := RX1) (T := TX1) (N := 13) hx hb hts hiw hown hK hP 0 rfl rfl 6 (by decide) (hts (.fieldLink RX1 19 "TunedWrensModel" "rungs" "[I") (by decide +kernel)) (fun _ h9 => h9) rfl dX1_inOctaves_32 ?_
      refine lv_iload_n hx hb dX1_inOctaves_35 rfl (lv_at hl 1 rfl) ?_
      refine va_iald hx hb hK hP 1 0 rfl rfl (vp_in_nI hj (by decide)) dX1_inOctaves_36 ?_
      rw [show ((z.1 (nI j).toNatClampNeg) : Int32) = (z.1 j) from (by rw [nI_clamp (by omega)])]
      refine lv_if_lt (tgt := 64) hx hb dX1_inOctaves_37 (by decide) (fun c_37 => ?_) (fun c_37 => ?_)
      · refine lv_iconst (v := 0) hx hb dX1_inOctaves_64 (by decide) ?_
        refine lv_iadd hx hb dX1_inOctaves_65 ?_
        refine lv_istore_n (lv' := [(1, .int (x + 0)), (3, .int (nI j)), (2, .int (nI i)), (0, .ref h)]) hx hb dX1_inOctaves_66 rfl hl (by decide) rfl (fun ls hl => ?_)
        refine lv_iinc (v := (nI (j + 1))) (lv' := [(3, .int (nI (j + 1))), (1, .int (x + 0)), (2, .int (nI i)), (0, .ref h)]) hx hb dX1_inOctaves_67 hl (k := 1) rfl (z_inc j 1) (by decide) rfl (fun ls hl => ?_)
        refine lv_goto (tgt := 16) hx hb dX1_inOctaves_70 (by decide) ?_
        have hl : lv_has ls 4 [(3, .int (nI (j + 1))), (1, .int (x + zb (zOct (z.1 j) (z.1 i)))), (2, .int (nI i)), (0, .ref h)] := by
          rw [show ((x + zb (zOct (z.1 j) (z.1 i))) : Int32) = (x + 0) from (by rw [zb_0 (fun q => ((zOct_M (hz i) (hz j)).mpr q).2.1 c_37)])]
          exact hl
        exact kk ls (lv_sub hl [1, 0, 2, 3] rfl)
      · refine lv_aload_n hx hb dX1_inOctaves_40 rfl (lv_at hl 3 rfl) ?_
        refine va_get (D := D) (ci := 1) (v := .ref (d 0)) (C := RX1) (T := TX1) (N := 13) hx hb hts hiw hown hK hP 0 rfl rfl 6 (by decide) (hts (.fieldLink RX1 19 "TunedWrensModel" "rungs" "[I") (by decide +kernel)) (fun _ h9 => h9) rfl dX1_inOctaves_41 ?_
        refine lv_iload_n hx hb dX1_inOctaves_44 rfl (lv_at hl 2 rfl) ?_
        refine va_iald hx hb hK hP 1 0 rfl rfl (vp_in_nI hi (by decide)) dX1_inOctaves_45 ?_
        rw [show ((z.1 (nI i).toNatClampNeg) : Int32) = (z.1 i) from (by rw [nI_clamp (by omega)])]
        refine lv_aload_n hx hb dX1_inOctaves_46 rfl (lv_at hl 3 rfl) ?_
        refine va_get (D := D) (ci := 1) (v := .ref (d 0)) (C := RX1) (T := TX1) (N := 13) hx hb hts hiw hown hK hP 0 rfl rfl 6 (by decide) (hts (.fieldLink RX1 19 "TunedWrensModel" "rungs" "[I") (by decide +kernel)) (fun _ h9 => h9) rfl dX1_inOctaves_47 ?_
        refine lv_iload_n hx hb dX1_inOctaves_50 rfl (lv_at hl 1 rfl) ?_
        refine va_iald hx hb hK hP 1 0 rfl rfl (vp_in_nI hj (by decide)) dX1_inOctaves_51 ?_
        rw [show ((z.1 (nI j).toNatClampNeg) : Int32) = (z.1 j) from (by rw [nI_clamp (by omega)])]
        refine lv_isub hx hb dX1_inOctaves_52 ?_
        refine lv_sipush (v := 1200) hx hb dX1_inOctaves_53 (by decide) ?_
        refine lv_irem hx hb dX1_inOctaves_56 (by decide) ?_
        refine lv_if_ne (tgt := 64) hx hb dX1_inOctaves_57 (by decide) (fun c_57 => ?_) (fun c_57 => ?_)
        · refine lv_iconst (v := 0) hx hb dX1_inOctaves_64 (by decide) ?_
          refine lv_iadd hx hb dX1_inOctaves_65 ?_
          refine lv_istore_n (lv' := [(1, .int (x + 0)), (3, .int (nI j)), (2, .int (nI i)), (0, .ref h)]) hx hb dX1_inOctaves_66 rfl hl (by decide) rfl (fun ls hl => ?_)
          refine lv_iinc (v := (nI (j + 1))) (lv' := [(3, .int (nI (j + 1))), (1, .int (x + 0)), (2, .int (nI i)), (0, .ref h)]) hx hb dX1_inOctaves_67 hl (k := 1) rfl (z_inc j 1) (by decide) rfl (fun ls hl => ?_)
          refine lv_goto (tgt := 16) hx hb dX1_inOctaves_70 (by decide) ?_
          have hl : lv_has ls 4 [(3, .int (nI (j + 1))), (1, .int (x + zb (zOct (z.1 j) (z.1 i)))), (2, .int (nI i)), (0, .ref h)] := by
            rw [show ((x + zb (zOct (z.1 j) (z.1 i))) : Int32) = (x + 0) from (by rw [zb_0 (fun q => c_57 ((zOct_M (hz i) (hz j)).mpr q).2.2)])]
            exact hl
          exact kk ls (lv_sub hl [1, 0, 2, 3] rfl)
        · refine lv_iconst (v := 1) hx hb dX1_inOctaves_60 (by decide) ?_
          refine lv_goto (tgt := 65) hx hb dX1_inOctaves_61 (by decide) ?_
          refine lv_iadd hx hb dX1_inOctaves_65 ?_
          refine lv_istore_n (lv' := [(1, .int (x + 1)), (3, .int (nI j)), (2, .int (nI i)), (0, .ref h)]) hx hb dX1_inOctaves_66 rfl hl (by decide) rfl (fun ls hl => ?_)
          refine lv_iinc (v := (nI (j + 1))) (lv' := [(3, .int (nI (j + 1))), (1, .int (x + 1)), (2, .int (nI i)), (0, .ref h)]) hx hb dX1_inOctaves_67 hl (k := 1) rfl (z_inc j 1) (by decide) rfl (fun ls hl => ?_)
          refine lv_goto (tgt := 16) hx hb dX1_inOctaves_70 (by decide) ?_
          have hl : lv_has ls 4 [(3, .int (nI (j + 1))), (1, .int (x + zb (zOct (z.1 j) (z.1 i)))), (2, .int (nI i)), (0, .ref h)] := by
            rw [show ((x + zb (zOct (z.1 j) (z.1 i))) : Int32) = (x + 1) from (by rw [zb_1 ((zOct_M (hz i) (hz j)).mp ⟨c_28, c_37, c_57⟩)])]
            exact hl
          exact kk ls (lv_sub hl [1, 0, 2, 3] rfl)
  refine lv_aload_n hx hb dX1_inOctaves_0 rfl (lv_at hl 0 rfl) ?_
  refine lv_iconst (v := 0) hx hb dX1_inOctaves_1 (by decide) ?_
  refine va_put (D := D) (ci := 1) (v := .int 0) (ty := .int) (C := RX1) (T := TX1) (N := 13) hx hb hts hiw tyX1 tyX1_ok nmX1 hown hK hP hD hS 0 rfl rfl 0 (by decide) (hts (.fieldLink RX1 41 "TunedWrensModel" "thrown" "I") (by decide +kernel)) (fun _ h9 => h9) rfl (by decide +kernel) rfl rfl (Nat.le_of_ble_eq_true rfl) dX1_inOctaves_2 (fun H locs hP hD hS => ?_)
  have hP : va_P D vwCl (wM h d cA (0) z c ++ E) H := hP
  have hD : va_D (zA N0) (wM h d cA (0) z c ++ E) := hD
  refine lv_iconst (v := 0) hx hb dX1_inOctaves_5 (by decide) ?_
  refine lv_istore_n (lv' := [(1, .int 0), (0, .ref h)]) hx hb dX1_inOctaves_6 rfl hl (by decide) rfl (fun ls hl => ?_)
  refine lv_iconst (v := 0) hx hb dX1_inOctaves_7 (by decide) ?_
  refine lv_istore_n (lv' := [(2, .int 0), (1, .int 0), (0, .ref h)]) hx hb dX1_inOctaves_8 rfl hl (by decide) rfl (fun ls hl => ?_)
  refine lv_iload_n hx hb dX1_inOctaves_9 rfl (lv_at hl 0 rfl) ?_
  refine lv_iconst (v := 4) hx hb dX1_inOctaves_10 (by decide) ?_
  refine lv_icmp_ge (tgt := 79) hx hb dX1_inOctaves_11 (by decide) (fun c_11 => absurd c_11 (by decide)) (fun _ => ?_)
  refine lv_iconst (v := 0) hx hb dX1_inOctaves_14 (by decide) ?_
  refine lv_istore_n (lv' := [(3, .int 0), (2, .int 0), (1, .int 0), (0, .ref h)]) hx hb dX1_inOctaves_15 rfl hl (by decide) rfl (fun ls hl => ?_)
  refine lv_iload_n hx hb dX1_inOctaves_16 rfl (lv_at hl 0 rfl) ?_
  refine lv_iload_n hx hb dX1_inOctaves_17 rfl (lv_at hl 1 rfl) ?_
  refine lv_icmp_ge (tgt := 73) hx hb dX1_inOctaves_18 (by decide) (fun _ => ?_) (fun c_18 => absurd c_18 (by decide))
  refine lv_iinc (v := 1) (lv' := [(2, .int 1), (3, .int 0), (1, .int 0), (0, .ref h)]) hx hb dX1_inOctaves_73 hl (k := 1) rfl rfl (by decide) rfl (fun ls hl => ?_)
  refine lv_goto (tgt := 9) hx hb dX1_inOctaves_76 (by decide) ?_
  refine lv_iload_n hx hb dX1_inOctaves_9 rfl (lv_at hl 0 rfl) ?_
  refine lv_iconst (v := 4) hx hb dX1_inOctaves_10 (by decide) ?_
  refine lv_icmp_ge (tgt := 79) hx hb dX1_inOctaves_11 (by decide) (fun c_11 => absurd c_11 (by decide)) (fun _ => ?_)
  refine lv_iconst (v := 0) hx hb dX1_inOctaves_14 (by decide) ?_
  refine lv_istore_n (lv' := [(3, .int 0), (2, .int 1), (1, .int 0), (0, .ref h)]) hx hb dX1_inOctaves_15 rfl hl (by decide) rfl (fun ls hl => ?_)
  refine lv_iload_n hx hb dX1_inOctaves_16 rfl (lv_at hl 0 rfl) ?_
  refine lv_iload_n hx hb dX1_inOctaves_17 rfl (lv_at hl 1 rfl) ?_
  refine lv_icmp_ge (tgt := 73) hx hb dX1_inOctaves_18 (by decide) (fun c_18 => absurd c_18 (by decide)) (fun _ => ?_)
  refine bk _ _ hP hD hS 1 0 0 (by decide) (by decide) (fun ls hl => ?_) ls (lv_sub hl [2, 0, 1, 3] rfl)
  have hl : lv_has ls 4 [(1, .int (0 + zb (zOct (z.1 0) (z.1 1)))), (3, .int 1), (2, .int 1), (0, .ref h)] := hl
  refine lv_iload_n hx hb dX1_inOctaves_16 rfl (lv_at hl 1 rfl) ?_
  refine lv_iload_n hx hb dX1_inOctaves_17 rfl (lv_at hl 2 rfl) ?_
  refine lv_icmp_ge (tgt := 73) hx hb dX1_inOctaves_18 (by decide) (fun _ => ?_) (fun c_18 => absurd c_18 (by decide))
  refine lv_iinc (v := 2) (lv' := [(2, .int 2), (1, .int (0 + zb (zOct (z.1 0) (z.1 1)))), (3, .int 1), (0, .ref h)]) hx hb dX1_inOctaves_73 hl (k := 2) rfl rfl (by decide) rfl (fun ls hl => ?_)
  refine lv_goto (tgt := 9) hx hb dX1_inOctaves_76 (by decide) ?_
  refine lv_iload_n hx hb dX1_inOctaves_9 rfl (lv_at hl 0 rfl) ?_
  refine lv_iconst (v := 4) hx hb dX1_inOctaves_10 (by decide) ?_
  refine lv_icmp_ge (tgt := 79) hx hb dX1_inOctaves_11 (by decide) (fun c_11 => absurd c_11 (by decide)) (fun _ => ?_)
  refine lv_iconst (v := 0) hx hb dX1_inOctaves_14 (by decide) ?_
  refine lv_istore_n (lv' := [(3, .int 0), (2, .int 2), (1, .int (0 + zb (zOct (z.1 0) (z.1 1)))), (0, .ref h)]) hx hb dX1_inOctaves_15 rfl hl (by decide) rfl (fun ls hl => ?_)
  refine lv_iload_n hx hb dX1_inOctaves_16 rfl (lv_at hl 0 rfl) ?_
  refine lv_iload_n hx hb dX1_inOctaves_17 rfl (lv_at hl 1 rfl) ?_
  refine lv_icmp_ge (tgt := 73) hx hb dX1_inOctaves_18 (by decide) (fun c_18 => absurd c_18 (by decide)) (fun _ => ?_)
  refine bk _ _ hP hD hS 2 0 (0 + zb (zOct (z.1 0) (z.1 1))) (by decide) (by decide) (fun ls hl => ?_) ls (lv_sub hl [2, 0, 1, 3] rfl)
  have hl : lv_has ls 4 [(1, .int ((0 + zb (zOct (z.1 0) (z.1 1))) + zb (zOct (z.1 0) (z.1 2)))), (3, .int 1), (2, .int 2), (0, .ref h)] := hl
  refine lv_iload_n hx hb dX1_inOctaves_16 rfl (lv_at hl 1 rfl) ?_
  refine lv_iload_n hx hb dX1_inOctaves_17 rfl (lv_at hl 2 rfl) ?_
  refine lv_icmp_ge (tgt := 73) hx hb dX1_inOctaves_18 (by decide) (fun c_18 => absurd c_18 (by decide)) (fun _ => ?_)
  refine bk _ _ hP hD hS 2 1 ((0 + zb (zOct (z.1 0) (z.1 1))) + zb (zOct (z.1 0) (z.1 2))) (by decide) (by decide) (fun ls hl => ?_) ls (lv_sub hl [0, 1, 2, 3] rfl)
  have hl : lv_has ls 4 [(1, .int (((0 + zb (zOct (z.1 0) (z.1 1))) + zb (zOct (z.1 0) (z.1 2))) + zb (zOct (z.1 1) (z.1 2)))), (3, .int 2), (2, .int 2), (0, .ref h)] := hl
  refine lv_iload_n hx hb dX1_inOctaves_16 rfl (lv_at hl 1 rfl) ?_
  refine lv_iload_n hx hb dX1_inOctaves_17 rfl (lv_at hl 2 rfl) ?_
  refine lv_icmp_ge (tgt := 73) hx hb dX1_inOctaves_18 (by decide) (fun _ => ?_) (fun c_18 => absurd c_18 (by decide))
  refine lv_iinc (v := 3) (lv' := [(2, .int 3), (1, .int (((0 + zb (zOct (z.1 0) (z.1 1))) + zb (zOct (z.1 0) (z.1 2))) + zb (zOct (z.1 1) (z.1 2)))), (3, .int 2), (0, .ref h)]) hx hb dX1_inOctaves_73 hl (k := 2) rfl rfl (by decide) rfl (fun ls hl => ?_)
  refine lv_goto (tgt := 9) hx hb dX1_inOctaves_76 (by decide) ?_
  refine lv_iload_n hx hb dX1_inOctaves_9 rfl (lv_at hl 0 rfl) ?_
  refine lv_iconst (v := 4) hx hb dX1_inOctaves_10 (by decide) ?_
  refine lv_icmp_ge (tgt := 79) hx hb dX1_inOctaves_11 (by decide) (fun c_11 => absurd c_11 (by decide)) (fun _ => ?_)
  refine lv_iconst (v := 0) hx hb dX1_inOctaves_14 (by decide) ?_
  refine lv_istore_n (lv' := [(3, .int 0), (2, .int 3), (1, .int (((0 + zb (zOct (z.1 0) (z.1 1))) + zb (zOct (z.1 0) (z.1 2))) + zb (zOct (z.1 1) (z.1 2)))), (0, .ref h)]) hx hb dX1_inOctaves_15 rfl hl (by decide) rfl (fun ls hl => ?_)
  refine lv_iload_n hx hb dX1_inOctaves_16 rfl (lv_at hl 0 rfl) ?_
  refine lv_iload_n hx hb dX1_inOctaves_17 rfl (lv_at hl 1 rfl) ?_
  refine lv_icmp_ge (tgt := 73) hx hb dX1_inOctaves_18 (by decide) (fun c_18 => absurd c_18 (by decide)) (fun _ => ?_)
  refine bk _ _ hP hD hS 3 0 (((0 + zb (zOct (z.1 0) (z.1 1))) + zb (zOct (z.1 0) (z.1 2))) + zb (zOct (z.1 1) (z.1 2))) (by decide) (by decide) (fun ls hl => ?_) ls (lv_sub hl [2, 0, 1, 3] rfl)
  have hl : lv_has ls 4 [(1, .int ((((0 + zb (zOct (z.1 0) (z.1 1))) + zb (zOct (z.1 0) (z.1 2))) + zb (zOct (z.1 1) (z.1 2))) + zb (zOct (z.1 0) (z.1 3)))), (3, .int 1), (2, .int 3), (0, .ref h)] := hl
  refine lv_iload_n hx hb dX1_inOctaves_16 rfl (lv_at hl 1 rfl) ?_
  refine lv_iload_n hx hb dX1_inOctaves_17 rfl (lv_at hl 2 rfl) ?_
  refine lv_icmp_ge (tgt := 73) hx hb dX1_inOctaves_18 (by decide) (fun c_18 => absurd c_18 (by decide)) (fun _ => ?_)
  refine bk _ _ hP hD hS 3 1 ((((0 + zb (zOct (z.1 0) (z.1 1))) + zb (zOct (z.1 0) (z.1 2))) + zb (zOct (z.1 1) (z.1 2))) + zb (zOct (z.1 0) (z.1 3))) (by decide) (by decide) (fun ls hl => ?_) ls (lv_sub hl [0, 1, 2, 3] rfl)
  have hl : lv_has ls 4 [(1, .int (((((0 + zb (zOct (z.1 0) (z.1 1))) + zb (zOct (z.1 0) (z.1 2))) + zb (zOct (z.1 1) (z.1 2))) + zb (zOct (z.1 0) (z.1 3))) + zb (zOct (z.1 1) (z.1 3)))), (3, .int 2), (2, .int 3), (0, .ref h)] := hl
  refine lv_iload_n hx hb dX1_inOctaves_16 rfl (lv_at hl 1 rfl) ?_
  refine lv_iload_n hx hb dX1_inOctaves_17 rfl (lv_at hl 2 rfl) ?_
  refine lv_icmp_ge (tgt := 73) hx hb dX1_inOctaves_18 (by decide) (fun c_18 => absurd c_18 (by decide)) (fun _ => ?_)
  refine bk _ _ hP hD hS 3 2 (((((0 + zb (zOct (z.1 0) (z.1 1))) + zb (zOct (z.1 0) (z.1 2))) + zb (zOct (z.1 1) (z.1 2))) + zb (zOct (z.1 0) (z.1 3))) + zb (zOct (z.1 1) (z.1 3))) (by decide) (by decide) (fun ls hl => ?_) ls (lv_sub hl [0, 1, 2, 3] rfl)
  have hl : lv_has ls 4 [(1, .int ((((((0 + zb (zOct (z.1 0) (z.1 1))) + zb (zOct (z.1 0) (z.1 2))) + zb (zOct (z.1 1) (z.1 2))) + zb (zOct (z.1 0) (z.1 3))) + zb (zOct (z.1 1) (z.1 3))) + zb (zOct (z.1 2) (z.1 3)))), (3, .int 3), (2, .int 3), (0, .ref h)] := hl
  refine lv_iload_n hx hb dX1_inOctaves_16 rfl (lv_at hl 1 rfl) ?_
  refine lv_iload_n hx hb dX1_inOctaves_17 rfl (lv_at hl 2 rfl) ?_
  refine lv_icmp_ge (tgt := 73) hx hb dX1_inOctaves_18 (by decide) (fun _ => ?_) (fun c_18 => absurd c_18 (by decide))
  refine lv_iinc (v := 4) (lv' := [(2, .int 4), (1, .int ((((((0 + zb (zOct (z.1 0) (z.1 1))) + zb (zOct (z.1 0) (z.1 2))) + zb (zOct (z.1 1) (z.1 2))) + zb (zOct (z.1 0) (z.1 3))) + zb (zOct (z.1 1) (z.1 3))) + zb (zOct (z.1 2) (z.1 3)))), (3, .int 3), (0, .ref h)]) hx hb dX1_inOctaves_73 hl (k := 2) rfl rfl (by decide) rfl (fun ls hl => ?_)
  refine lv_goto (tgt := 9) hx hb dX1_inOctaves_76 (by decide) ?_
  refine lv_iload_n hx hb dX1_inOctaves_9 rfl (lv_at hl 0 rfl) ?_
  refine lv_iconst (v := 4) hx hb dX1_inOctaves_10 (by decide) ?_
  refine lv_icmp_ge (tgt := 79) hx hb dX1_inOctaves_11 (by decide) (fun _ => ?_) (fun c_11 => absurd c_11 (by decide))
  refine lv_iload_n hx hb dX1_inOctaves_79 rfl (lv_at hl 1 rfl) ?_
  exact W.iret (v := ((((((0 + zb (zOct (z.1 0) (z.1 1))) + zb (zOct (z.1 0) (z.1 2))) + zb (zOct (z.1 1) (z.1 2))) + zb (zOct (z.1 0) (z.1 3))) + zb (zOct (z.1 1) (z.1 3))) + zb (zOct (z.1 2) (z.1 3)))) hx hb hr (fun t ht hW => ⟨⟨_, (), rfl, (congrArg (fun q => q + zb (zOct (z.1 1) (z.1 3)) + zb (zOct (z.1 2) (z.1 3))) (zac _ _ _)), ⟨by rw [ht]; exact hP, hD⟩⟩, hS.F ht⟩) hS.2.2 dX1_inOctaves_80

theorem zu_ok {A : Nat → Int32} {i : Nat} {x : Int32} (h : ∀ j : Nat, A j = -1 ∨ (0 ≤ A j ∧ A j ≤ 12000)) (hx : x = -1 ∨ (0 ≤ x ∧ x ≤ 12000)) : ∀ j : Nat, upd A i x j = -1 ∨ (0 ≤ upd A i x j ∧ upd A i x j ≤ 12000) := by
  intro j
  by_cases hj : j = i
  · rw [hj, pk_us]; exact hx
  · rw [pk_un hj]; exact h j

set_option maxHeartbeats 4000000 in
set_option maxRecDepth 100000 in
theorem c_X1_framesToRung_v (l : Launch) (D : va_G) (N0 : Nat) (cA cL : ClassId) (E : va_W) (h : Nat) (d : Nat → Nat) (th : Int32) (z : S7) (c : C5) (w : Int32) (p : Int32) (hc : okC c) (hw : zw w) (hp : zp p) (hz : okZ z) : Met l yX1_framesToRung wsX1_framesToRung ({ frames := 6, cells := 0, slots := 0, locals := 141 }) (va_Pc [.ref h, .int w, .int p] (zPre D N0 cA cL (wM h d cA (th) z c ++ E))) (va_Qi (fun (rv : Int32) (_ : Unit) => rv = zFR c w.toNatClampNeg p z) (fun _ t => zPost D N0 (wM h d cA (0) z c ++ E) t) (zA N0)) 0 0 (zA N0) := by
  refine Met.ofW (cc := cX1_framesToRung) (maxL := 8) (ret := (some .int)) (by decide) rfl ?_
  intro pr e s m ag below meth cd s₁ B hml hv
  obtain ⟨rfl, hN, hP, hD, hK, hE⟩ := hv
  have hx := B.exec
  have hb := B.bytes
  have hr := B.returns
  have hts := atoms_spec (ws := wsX1_framesToRung) B.pre
  have hown : s.vm.findClass RX1 = some m.cls := findClass_of_methodNamed B.named
  have hlocks := B.notSynchronized
  have hS : va_S (zA N0) s.heap s.heap [] := va_S.rf
  have hiw : ∀ w ∈ u_ws RX1 TX1 13, w ∈ wsX1_framesToRung := by decide +kernel
  have hl := lv_entry ([.ref h, .int w, .int p]) (n := 8) (Nat.le_of_ble_eq_true rfl)
  rw [lg_entry_eq]
  generalize (lg_sl ([.ref h, .int w, .int p]) ++ List.replicate (8 - (lg_sl ([.ref h, .int w, .int p])).length) Slot.unset).toArray = ls at hl ⊢
  have hl : lv_has ls 8 [(0, .ref h), (1, .int w), (2, .int p)] := hl
  have j105 : ∀ (A0 A1 : Nat → Int32) (fd : Int32), upd A0 w.toNatClampNeg (z.1 w.toNatClampNeg) = z.1 → upd A1 w.toNatClampNeg (z.2.1 w.toNatClampNeg) = z.2.1 → fd = zFR c w.toNatClampNeg p z → ∀ (H : Heap) (locs : List Loc), va_P D vwCl (wM h d cA (0) (A0, A1, z.2.2.1, z.2.2.2.1, z.2.2.2.2.1, z.2.2.2.2.2.1, z.2.2.2.2.2.2) c ++ E) H → va_D (zA N0) (wM h d cA (0) (A0, A1, z.2.2.1, z.2.2.2.1, z.2.2.2.2.1, z.2.2.2.2.2.1, z.2.2.2.2.2.2) c ++ E) → va_S (zA N0) s.heap H locs → ∀ (ls : Array Slot), lv_has ls 8 [(5, .int fd), (3, .int (z.1 w.toNatClampNeg)), (4, .int (z.2.1 w.toNatClampNeg)), (0, .ref h), (1, .int w), (2, .int p)] → W pr l e (headSpec wsX1_framesToRung ({ frames := 6, cells := 0, slots := 0, locals := 141 })).room s m ([.ref h, .int w, .int p] : List Value).toArray below meth cd H locs 0 0 (MQ below (va_Qi (fun (rv : Int32) (_ : Unit) => rv = zFR c w.toNatClampNeg p z) (fun _ t => zPost D N0 (wM h d cA (0) z c ++ E) t) (zA N0)) ([.ref h, .int w, .int p] : List Value).toArray s 0 0 (zA N0)) (F0 m 105 ls []) := by
    intro A0 A1 fd hA0 hA1 hfd H locs hP hD hS ls hl
    refine lv_aload_n hx hb dX1_framesToRung_105 rfl (lv_at hl 3 rfl) ?_
    refine va_get (D := D) (ci := 1) (v := .ref (d 0)) (C := RX1) (T := TX1) (N := 13) hx hb hts hiw hown hK hP 0 rfl rfl 6 (by decide) (hts (.fieldLink RX1 19 "TunedWrensModel" "rungs" "[I") (by decide +kernel)) (fun _ h9 => h9) rfl dX1_framesToRung_106 ?_
    refine lv_iload_n hx hb dX1_framesToRung_109 rfl (lv_at hl 4 rfl) ?_
    refine lv_iload_n hx hb dX1_framesToRung_110 rfl (lv_at hl 1 rfl) ?_
    refine va_iast hx hb hK hP hD hS 1 0 rfl rfl (zw_in hw) dX1_framesToRung_111 (fun H locs hP hD hS => ?_)
    have hP : va_P D vwCl (wM h d cA (0) ((upd A0 w.toNatClampNeg (z.1 w.toNatClampNeg)), A1, z.2.2.1, z.2.2.2.1, z.2.2.2.2.1, z.2.2.2.2.2.1, z.2.2.2.2.2.2) c ++ E) H := hP
    have hD : va_D (zA N0) (wM h d cA (0) ((upd A0 w.toNatClampNeg (z.1 w.toNatClampNeg)), A1, z.2.2.1, z.2.2.2.1, z.2.2.2.2.1, z.2.2.2.2.2.1, z.2.2.2.2.2.2) c ++ E) := hD
    refine lv_aload_n hx hb dX1_framesToRung_112 rfl (lv_at hl 3 rfl) ?_
    refine va_get (D := D) (ci := 1) (v := .ref (d 1)) (C := RX1) (T := TX1) (N := 13) hx hb hts hiw hown hK hP 0 rfl rfl 7 (by decide) (hts (.fieldLink RX1 23 "TunedWrensModel" "nudges" "[I") (by decide +kernel)) (fun _ h9 => h9) rfl dX1_framesToRung_113 ?_
    refine lv_iload_n hx hb dX1_framesToRung_116 rfl (lv_at hl 4 rfl) ?_
    refine lv_iload hx hb dX1_framesToRung_117 (lv_at hl 2 rfl) ?_
    refine va_iast hx hb hK hP hD hS 2 0 rfl rfl (zw_in hw) dX1_framesToRung_119 (fun H locs hP hD hS => ?_)
    have hP : va_P D vwCl (wM h d cA (0) ((upd A0 w.toNatClampNeg (z.1 w.toNatClampNeg)), (upd A1 w.toNatClampNeg (z.2.1 w.toNatClampNeg)), z.2.2.1, z.2.2.2.1, z.2.2.2.2.1, z.2.2.2.2.2.1, z.2.2.2.2.2.2) c ++ E) H := hP
    have hD : va_D (zA N0) (wM h d cA (0) ((upd A0 w.toNatClampNeg (z.1 w.toNatClampNeg)), (upd A1 w.toNatClampNeg (z.2.1 w.toNatClampNeg)), z.2.2.1, z.2.2.2.1, z.2.2.2.2.1, z.2.2.2.2.2.1, z.2.2.2.2.2.2) c ++ E) := hD
    refine lv_iload hx hb dX1_framesToRung_120 (lv_at hl 0 rfl) ?_
    rw [hA0, hA1] at hP hD
    exact W.iret (v := fd) hx hb hr (fun t ht hW => ⟨⟨_, (), rfl, hfd, ⟨by rw [ht]; exact hP, hD⟩⟩, hS.F ht⟩) hS.2.2 dX1_framesToRung_122
  have loop : ∀ (n : Nat) (f k : Nat) (nn : Int32) (A0 A1 : Nat → Int32), f + k = 1000 → f < n → upd A0 w.toNatClampNeg (z.1 w.toNatClampNeg) = z.1 → upd A1 w.toNatClampNeg (z.2.1 w.toNatClampNeg) = z.2.1 → zNext c (A0 w.toNatClampNeg) p = (zNext c (z.1 w.toNatClampNeg) p) → zNud c (A0 w.toNatClampNeg) (A1 w.toNatClampNeg) (zNext c (z.1 w.toNatClampNeg) p) p = nn → (∀ i : Nat, A0 i = -1 ∨ (0 ≤ A0 i ∧ A0 i ≤ 12000)) → zFf c.2.2.1 p (zNext c (z.1 w.toNatClampNeg) p) f k nn = zFR c w.toNatClampNeg p z → ∀ (H : Heap) (locs : List Loc), va_P D vwCl (wM h d cA (0) (A0, A1, z.2.2.1, z.2.2.2.1, z.2.2.2.2.1, z.2.2.2.2.2.1, z.2.2.2.2.2.2) c ++ E) H → va_D (zA N0) (wM h d cA (0) (A0, A1, z.2.2.1, z.2.2.2.1, z.2.2.2.2.1, z.2.2.2.2.2.1, z.2.2.2.2.2.2) c ++ E) → va_S (zA N0) s.heap H locs → ∀ (ls : Array Slot), lv_has ls 8 [(5, .int (-1)), (6, .int (nI k)), (3, .int (z.1 w.toNatClampNeg)), (4, .int (z.2.1 w.toNatClampNeg)), (0, .ref h), (1, .int w), (2, .int p)] → W pr l e (headSpec wsX1_framesToRung ({ frames := 6, cells := 0, slots := 0, locals := 141 })).room s m ([.ref h, .int w, .int p] : List Value).toArray below meth cd H locs 0 0 (MQ below (va_Qi (fun (rv : Int32) (_ : Unit) => rv = zFR c w.toNatClampNeg p z) (fun _ t => zPost D N0 (wM h d cA (0) z c ++ E) t) (zA N0)) ([.ref h, .int w, .int p] : List Value).toArray s 0 0 (zA N0)) (F0 m 53 ls []) := by
    intro n
    induction n with
    | zero =>
      intro f k nn A0 A1 hf hn hA0 hA1 hR hG hok he
      omega
    | succ n ih =>
      intro f k nn A0 A1 hf hn hA0 hA1 hR hG hok he H locs hP hD hS ls hl
      refine lv_iload hx hb dX1_framesToRung_53 (lv_at hl 1 rfl) ?_
      refine lv_sipush (v := 1000) hx hb dX1_framesToRung_55 (by decide) ?_
      refine lv_icmp_ge (tgt := 105) hx hb dX1_framesToRung_58 (by decide) (fun c_58 => ?_) (fun c_58 => ?_)
      · have f0 : f = 0 := by have := (nI_leI (a := 1000) (by decide) (by omega)).mp c_58; omega
        subst f0
        exact j105 _ _ _ hA0 hA1 he _ _ hP hD hS ls (lv_sub hl [0, 2, 3, 4, 5, 6] rfl)
      · obtain ⟨g, rfl⟩ : ∃ g, f = g + 1 := ⟨f - 1, by have : ¬ f = 0 := fun q => c_58 ((nI_leI (a := 1000) (by decide) (by omega)).mpr (by omega)); omega⟩
        refine lv_iload hx hb dX1_framesToRung_61 (lv_at hl 0 rfl) ?_
        refine lv_if_ge (tgt := 105) hx hb dX1_framesToRung_63 (by decide) (fun c_63 => absurd c_63 (by decide)) (fun _ => ?_)
        refine lv_aload_n hx hb dX1_framesToRung_66 rfl (lv_at hl 4 rfl) ?_
        refine lv_iload_n hx hb dX1_framesToRung_67 rfl (lv_at hl 5 rfl) ?_
        refine lv_iload_n hx hb dX1_framesToRung_68 rfl (lv_at hl 6 rfl) ?_
        refine va_calli (va_runV (As := [.int w, .int p]) (rest := []) ⟨hx, hb, hml, hown, hts⟩ (c_X1_moves l D N0 cA cL E h d (0) (A0, A1, z.2.2.1, z.2.2.2.1, z.2.2.2.2.1, z.2.2.2.2.2.1, z.2.2.2.2.2.2) c w p hc hw hp hok) (cwV 2 hts gX1_framesToRung_X1_moves rfl rfl rfl (by decide +kernel) ⟨Nat.le_of_ble_eq_true rfl, Nat.le_of_ble_eq_true rfl⟩) ⟨zPre.blind, va_recv hK hP (ci := 1) (q0 := 0) rfl rfl, zPre.call hN hP hD hK hE hS⟩ rfl rfl hl.1 rfl (lv_room (Nat.le_of_ble_eq_true rfl)) dX1_framesToRung_69 ⟨Nat.zero_le _, Nat.zero_le _⟩) hS (fun _ _ h9 => h9) (fun _ h9 => h9) (fun r_69 _ t H locs ht hvm h_69 hB hz1 hk1 hS => ?_)
        have h_69 : r_69 = (zMv c w.toNatClampNeg p (A0, A1, z.2.2.1, z.2.2.2.1, z.2.2.2.2.1, z.2.2.2.2.2.1, z.2.2.2.2.2.2)) := h_69
        subst h_69
        obtain ⟨hP, hD⟩ := hB
        rw [ht] at hP
        have hP : va_P D vwCl (wM h d cA (0) ((upd A0 w.toNatClampNeg (zR c w.toNatClampNeg p (A0, A1, z.2.2.1, z.2.2.2.1, z.2.2.2.2.1, z.2.2.2.2.2.1, z.2.2.2.2.2.2))), (upd A1 w.toNatClampNeg (zG c w.toNatClampNeg p (A0, A1, z.2.2.1, z.2.2.2.1, z.2.2.2.2.1, z.2.2.2.2.2.1, z.2.2.2.2.2.2))), z.2.2.1, z.2.2.2.1, z.2.2.2.2.1, z.2.2.2.2.2.1, z.2.2.2.2.2.2) c ++ E) H := hP
        have hD : va_D (zA N0) (wM h d cA (0) ((upd A0 w.toNatClampNeg (zR c w.toNatClampNeg p (A0, A1, z.2.2.1, z.2.2.2.1, z.2.2.2.2.1, z.2.2.2.2.2.1, z.2.2.2.2.2.2))), (upd A1 w.toNatClampNeg (zG c w.toNatClampNeg p (A0, A1, z.2.2.1, z.2.2.2.1, z.2.2.2.2.1, z.2.2.2.2.2.1, z.2.2.2.2.2.2))), z.2.2.1, z.2.2.2.1, z.2.2.2.2.1, z.2.2.2.2.2.1, z.2.2.2.2.2.2) c ++ E) := hD
        have hP : va_P D vwCl (wM h d cA (0) ((upd A0 w.toNatClampNeg (zNext c (z.1 w.toNatClampNeg) p)), (upd A1 w.toNatClampNeg nn), z.2.2.1, z.2.2.2.1, z.2.2.2.2.1, z.2.2.2.2.2.1, z.2.2.2.2.2.2) c ++ E) H := by
          rw [show ((upd A0 w.toNatClampNeg (zNext c (z.1 w.toNatClampNeg) p)) : Nat → Int32) = (upd A0 w.toNatClampNeg (zR c w.toNatClampNeg p (A0, A1, z.2.2.1, z.2.2.2.1, z.2.2.2.2.1, z.2.2.2.2.2.1, z.2.2.2.2.2.2))) from (by rw [← hR]; rfl), show ((upd A1 w.toNatClampNeg nn) : Nat → Int32) = (upd A1 w.toNatClampNeg (zG c w.toNatClampNeg p (A0, A1, z.2.2.1, z.2.2.2.1, z.2.2.2.2.1, z.2.2.2.2.2.1, z.2.2.2.2.2.2))) from (by rw [← hG, ← hR]; rfl)]
          exact hP
        have hD : va_D (zA N0) (wM h d cA (0) ((upd A0 w.toNatClampNeg (zNext c (z.1 w.toNatClampNeg) p)), (upd A1 w.toNatClampNeg nn), z.2.2.1, z.2.2.2.1, z.2.2.2.2.1, z.2.2.2.2.2.1, z.2.2.2.2.2.2) c ++ E) := by
          rw [show ((upd A0 w.toNatClampNeg (zNext c (z.1 w.toNatClampNeg) p)) : Nat → Int32) = (upd A0 w.toNatClampNeg (zR c w.toNatClampNeg p (A0, A1, z.2.2.1, z.2.2.2.1, z.2.2.2.2.1, z.2.2.2.2.2.1, z.2.2.2.2.2.2))) from (by rw [← hR]; rfl), show ((upd A1 w.toNatClampNeg nn) : Nat → Int32) = (upd A1 w.toNatClampNeg (zG c w.toNatClampNeg p (A0, A1, z.2.2.1, z.2.2.2.1, z.2.2.2.2.1, z.2.2.2.2.2.1, z.2.2.2.2.2.2))) from (by rw [← hG, ← hR]; rfl)]
          exact hD
        refine lv_istore (lv' := [(7, .int (zMv c w.toNatClampNeg p (A0, A1, z.2.2.1, z.2.2.2.1, z.2.2.2.2.1, z.2.2.2.2.2.1, z.2.2.2.2.2.2))), (5, .int (-1)), (6, .int (nI k)), (3, .int (z.1 w.toNatClampNeg)), (4, .int (z.2.1 w.toNatClampNeg)), (0, .ref h), (1, .int w), (2, .int p)]) hx hb dX1_framesToRung_72 hl (by decide) rfl (fun ls hl => ?_)
        refine lv_iload_n hx hb dX1_framesToRung_74 rfl (lv_at hl 7 rfl) ?_
        refine lv_aload_n hx hb dX1_framesToRung_75 rfl (lv_at hl 5 rfl) ?_
        refine va_get (D := D) (ci := 1) (v := .ref (d 1)) (C := RX1) (T := TX1) (N := 13) hx hb hts hiw hown hK hP 0 rfl rfl 7 (by decide) (hts (.fieldLink RX1 23 "TunedWrensModel" "nudges" "[I") (by decide +kernel)) (fun _ h9 => h9) rfl dX1_framesToRung_76 ?_
        refine lv_iload_n hx hb dX1_framesToRung_79 rfl (lv_at hl 6 rfl) ?_
        refine va_iald hx hb hK hP 2 0 rfl rfl (zw_in hw) dX1_framesToRung_80 ?_
        dsimp only
        rw [show (((upd A1 w.toNatClampNeg nn) w.toNatClampNeg) : Int32) = nn from pk_us]
        refine lv_iadd hx hb dX1_framesToRung_81 ?_
        refine lv_aload_n hx hb dX1_framesToRung_82 rfl (lv_at hl 5 rfl) ?_
        refine va_get (D := D) (ci := 1) (v := .ref (d 0)) (C := RX1) (T := TX1) (N := 13) hx hb hts hiw hown hK hP 0 rfl rfl 6 (by decide) (hts (.fieldLink RX1 19 "TunedWrensModel" "rungs" "[I") (by decide +kernel)) (fun _ h9 => h9) rfl dX1_framesToRung_83 ?_
        refine lv_iload_n hx hb dX1_framesToRung_86 rfl (lv_at hl 6 rfl) ?_
        refine va_iald hx hb hK hP 1 0 rfl rfl (zw_in hw) dX1_framesToRung_87 ?_
        dsimp only
        rw [show (((upd A0 w.toNatClampNeg (zNext c (z.1 w.toNatClampNeg) p)) w.toNatClampNeg) : Int32) = (zNext c (z.1 w.toNatClampNeg) p) from pk_us]
        refine lv_icmp_ne (tgt := 96) hx hb dX1_framesToRung_88 (by decide) (fun c_88 => ?_) (fun c_88 => ?_)
        · refine lv_iconst (v := (-1)) hx hb dX1_framesToRung_96 (by decide) ?_
          refine lv_istore (lv' := [(5, .int (-1)), (7, .int (zMv c w.toNatClampNeg p (A0, A1, z.2.2.1, z.2.2.2.1, z.2.2.2.2.1, z.2.2.2.2.2.1, z.2.2.2.2.2.2))), (6, .int (nI k)), (3, .int (z.1 w.toNatClampNeg)), (4, .int (z.2.1 w.toNatClampNeg)), (0, .ref h), (1, .int w), (2, .int p)]) hx hb dX1_framesToRung_97 hl (by decide) rfl (fun ls hl => ?_)
          refine lv_iinc (v := (nI (k + 1))) (lv' := [(6, .int (nI (k + 1))), (5, .int (-1)), (7, .int (zMv c w.toNatClampNeg p (A0, A1, z.2.2.1, z.2.2.2.1, z.2.2.2.2.1, z.2.2.2.2.2.1, z.2.2.2.2.2.2))), (3, .int (z.1 w.toNatClampNeg)), (4, .int (z.2.1 w.toNatClampNeg)), (0, .ref h), (1, .int w), (2, .int p)]) hx hb dX1_framesToRung_99 hl (k := 2) rfl (z_inc k 1) (by decide) rfl (fun ls hl => ?_)
          refine lv_goto (tgt := 53) hx hb dX1_framesToRung_102 (by decide) ?_
          exact ih g (k + 1) (zTow c.2.2.1 nn ((zNext c (z.1 w.toNatClampNeg) p) - p)) (upd A0 w.toNatClampNeg (zNext c (z.1 w.toNatClampNeg) p)) (upd A1 w.toNatClampNeg nn) (by omega) (by omega) (by rw [zu_t]; exact hA0) (by rw [zu_t]; exact hA1) (by rw [pk_us]; exact zNext_idem c _ p) (by rw [pk_us, pk_us]; exact (zNud_n (fun q => q.1.2 rfl)).symm) (zu_ok hok (zNext_ok hc hp (hz _))) ((if_neg c_88).symm.trans he) _ _ hP hD hS ls (lv_sub hl [1, 0, 3, 4, 5, 6, 7] rfl)
        · refine lv_iload hx hb dX1_framesToRung_91 (lv_at hl 2 rfl) ?_
          refine lv_goto (tgt := 97) hx hb dX1_framesToRung_93 (by decide) ?_
          refine lv_istore (lv' := [(5, .int (nI k)), (7, .int (zMv c w.toNatClampNeg p (A0, A1, z.2.2.1, z.2.2.2.1, z.2.2.2.2.1, z.2.2.2.2.2.1, z.2.2.2.2.2.2))), (6, .int (nI k)), (3, .int (z.1 w.toNatClampNeg)), (4, .int (z.2.1 w.toNatClampNeg)), (0, .ref h), (1, .int w), (2, .int p)]) hx hb dX1_framesToRung_97 hl (by decide) rfl (fun ls hl => ?_)
          refine lv_iinc (v := (nI (k + 1))) (lv' := [(6, .int (nI (k + 1))), (5, .int (nI k)), (7, .int (zMv c w.toNatClampNeg p (A0, A1, z.2.2.1, z.2.2.2.1, z.2.2.2.2.1, z.2.2.2.2.2.1, z.2.2.2.2.2.2))), (3, .int (z.1 w.toNatClampNeg)), (4, .int (z.2.1 w.toNatClampNeg)), (0, .ref h), (1, .int w), (2, .int p)]) hx hb dX1_framesToRung_99 hl (k := 2) rfl (z_inc k 1) (by decide) rfl (fun ls hl => ?_)
          refine lv_goto (tgt := 53) hx hb dX1_framesToRung_102 (by decide) ?_
          refine lv_iload hx hb dX1_framesToRung_53 (lv_at hl 0 rfl) ?_
          refine lv_sipush (v := 1000) hx hb dX1_framesToRung_55 (by decide) ?_
          refine lv_icmp_ge (tgt := 105) hx hb dX1_framesToRung_58 (by decide) (fun c_58 => ?_) (fun c_58 => ?_)
          · exact j105 _ _ _ (by rw [zu_t]; exact hA0) (by rw [zu_t]; exact hA1) ((if_pos c_88).symm.trans he) _ _ hP hD hS ls (lv_sub hl [1, 3, 4, 5, 6, 7] rfl)
          · refine lv_iload hx hb dX1_framesToRung_61 (lv_at hl 1 rfl) ?_
            refine lv_if_ge (tgt := 105) hx hb dX1_framesToRung_63 (by decide) (fun c_63 => ?_) (fun c_63 => ?_)
            · exact j105 _ _ _ (by rw [zu_t]; exact hA0) (by rw [zu_t]; exact hA1) ((if_pos c_88).symm.trans he) _ _ hP hD hS ls (lv_sub hl [1, 3, 4, 5, 6, 7] rfl)
            · exact absurd (nI_pos' (by omega)) c_63
  refine lv_aload_n hx hb dX1_framesToRung_0 rfl (lv_at hl 0 rfl) ?_
  refine lv_iload_n hx hb dX1_framesToRung_1 rfl (lv_at hl 1 rfl) ?_
  refine vp_callSi ((va_runS (As := [.int w]) (rest := [.ref h]) ⟨hx, hb, hml, hown, hts⟩ (c_X1_isWren l w) (va_cwS 1 hts gX1_framesToRung_X1_isWren rfl rfl rfl (by decide +kernel) ⟨Nat.le_of_ble_eq_true rfl, Nat.le_of_ble_eq_true rfl⟩) ⟨zT.blind, zT.call⟩ rfl rfl hl.1 rfl (lv_room (Nat.le_of_ble_eq_true rfl)) dX1_framesToRung_2 ⟨Nat.zero_le _, Nat.zero_le _⟩).run) (fun r_2 h_2 => ?_)
  have h_2 : r_2 = (zb (zw w)) := h_2
  subst h_2
  refine lv_if_ne (tgt := 12) hx hb dX1_framesToRung_5 (by decide) (fun c_5 => ?_) (fun c_5 => ?_)
  · refine lv_iload_n hx hb dX1_framesToRung_12 rfl (lv_at hl 2 rfl) ?_
    refine vp_callSi ((va_runS (As := [.int p]) (rest := [.ref h]) ⟨hx, hb, hml, hown, hts⟩ (c_X1_isPitch l p) (va_cwS 1 hts gX1_framesToRung_X1_isPitch rfl rfl rfl (by decide +kernel) ⟨Nat.le_of_ble_eq_true rfl, Nat.le_of_ble_eq_true rfl⟩) ⟨zT.blind, zT.call⟩ rfl rfl hl.1 rfl (lv_room (Nat.le_of_ble_eq_true rfl)) dX1_framesToRung_13 ⟨Nat.zero_le _, Nat.zero_le _⟩).run) (fun r_13 h_13 => ?_)
    have h_13 : r_13 = (zb (zp p)) := h_13
    subst h_13
    refine lv_if_eq (tgt := 23) hx hb dX1_framesToRung_16 (by decide) (fun c_16 => ?_) (fun c_16 => ?_)
    · exact absurd hp (zb_f c_16)
    · refine lv_iconst (v := 0) hx hb dX1_framesToRung_19 (by decide) ?_
      refine lv_goto (tgt := 24) hx hb dX1_framesToRung_20 (by decide) ?_
      refine va_calli (va_runV (As := [.int 0]) (rest := []) ⟨hx, hb, hml, hown, hts⟩ (c_X1_holds_0 l D N0 cA cL E h d (th) z c) (cwV 1 hts gX1_framesToRung_X1_holds rfl rfl rfl (by decide +kernel) ⟨Nat.le_of_ble_eq_true rfl, Nat.le_of_ble_eq_true rfl⟩) ⟨zPre.blind, va_recv hK hP (ci := 1) (q0 := 0) rfl rfl, zPre.call hN hP hD hK hE hS⟩ rfl rfl hl.1 rfl (lv_room (Nat.le_of_ble_eq_true rfl)) dX1_framesToRung_24 ⟨Nat.zero_le _, Nat.zero_le _⟩) hS (fun _ _ h9 => h9) (fun _ h9 => h9) (fun r_24 _ t H locs ht hvm h_24 hB hz1 hk1 hS => ?_)
      have h_24 : r_24 = 1 := h_24
      subst h_24
      obtain ⟨hP, hD⟩ := hB
      rw [ht] at hP
      have hP : va_P D vwCl (wM h d cA (0) z c ++ E) H := hP
      have hD : va_D (zA N0) (wM h d cA (0) z c ++ E) := hD
      refine lv_if_ne (tgt := 32) hx hb dX1_framesToRung_27 (by decide) (fun _ => ?_) (fun c_27 => absurd c_27 (by decide))
      refine lv_aload_n hx hb dX1_framesToRung_32 rfl (lv_at hl 0 rfl) ?_
      refine va_get (D := D) (ci := 1) (v := .ref (d 0)) (C := RX1) (T := TX1) (N := 13) hx hb hts hiw hown hK hP 0 rfl rfl 6 (by decide) (hts (.fieldLink RX1 19 "TunedWrensModel" "rungs" "[I") (by decide +kernel)) (fun _ h9 => h9) rfl dX1_framesToRung_33 ?_
      refine lv_iload_n hx hb dX1_framesToRung_36 rfl (lv_at hl 1 rfl) ?_
      refine va_iald hx hb hK hP 1 0 rfl rfl (zw_in hw) dX1_framesToRung_37 ?_
      refine lv_istore_n (lv' := [(3, .int (z.1 w.toNatClampNeg)), (0, .ref h), (1, .int w), (2, .int p)]) hx hb dX1_framesToRung_38 rfl hl (by decide) rfl (fun ls hl => ?_)
      refine lv_aload_n hx hb dX1_framesToRung_39 rfl (lv_at hl 1 rfl) ?_
      refine va_get (D := D) (ci := 1) (v := .ref (d 1)) (C := RX1) (T := TX1) (N := 13) hx hb hts hiw hown hK hP 0 rfl rfl 7 (by decide) (hts (.fieldLink RX1 23 "TunedWrensModel" "nudges" "[I") (by decide +kernel)) (fun _ h9 => h9) rfl dX1_framesToRung_40 ?_
      refine lv_iload_n hx hb dX1_framesToRung_43 rfl (lv_at hl 2 rfl) ?_
      refine va_iald hx hb hK hP 2 0 rfl rfl (zw_in hw) dX1_framesToRung_44 ?_
      refine lv_istore (lv' := [(4, .int (z.2.1 w.toNatClampNeg)), (3, .int (z.1 w.toNatClampNeg)), (0, .ref h), (1, .int w), (2, .int p)]) hx hb dX1_framesToRung_45 hl (by decide) rfl (fun ls hl => ?_)
      refine lv_iconst (v := (-1)) hx hb dX1_framesToRung_47 (by decide) ?_
      refine lv_istore (lv' := [(5, .int (-1)), (4, .int (z.2.1 w.toNatClampNeg)), (3, .int (z.1 w.toNatClampNeg)), (0, .ref h), (1, .int w), (2, .int p)]) hx hb dX1_framesToRung_48 hl (by decide) rfl (fun ls hl => ?_)
      refine lv_iconst (v := 1) hx hb dX1_framesToRung_50 (by decide) ?_
      refine lv_istore (lv' := [(6, .int 1), (5, .int (-1)), (4, .int (z.2.1 w.toNatClampNeg)), (3, .int (z.1 w.toNatClampNeg)), (0, .ref h), (1, .int w), (2, .int p)]) hx hb dX1_framesToRung_51 hl (by decide) rfl (fun ls hl => ?_)
      exact loop 1000 999 1 _ z.1 z.2.1 (by decide) (by decide) (zu_s _ _) (zu_s _ _) rfl rfl hz rfl _ _ hP hD hS ls (lv_sub hl [1, 0, 3, 2, 4, 5, 6] rfl)
  · exact absurd hw (zb_f c_5)

set_option maxHeartbeats 4000000 in
set_option maxRecDepth 100000 in
theorem c_X1_framesToRung_1 (l : Launch) (D : va_G) (N0 : Nat) (cA cL : ClassId) (E : va_W) (h : Nat) (d : Nat → Nat) (th : Int32) (z : S7) (c : C5) (w : Int32) (p : Int32) (hw : ¬ zw w) : Met l yX1_framesToRung wsX1_framesToRung ({ frames := 2, cells := 0, slots := 0, locals := 42 }) (va_Pc [.ref h, .int w, .int p] (zPre D N0 cA cL (wM h d cA (th) z c ++ E))) (va_Qi (fun (rv : Int32) (_ : Unit) => rv = 0) (fun _ t => zPost D N0 (wM h d cA (1) z c ++ E) t) (zA N0)) 0 0 (zA N0) := by
  refine Met.ofW (cc := cX1_framesToRung) (maxL := 8) (ret := (some .int)) (by decide) rfl ?_
  intro pr e s m ag below meth cd s₁ B hml hv
  obtain ⟨rfl, hN, hP, hD, hK, hE⟩ := hv
  have hx := B.exec
  have hb := B.bytes
  have hr := B.returns
  have hts := atoms_spec (ws := wsX1_framesToRung) B.pre
  have hown : s.vm.findClass RX1 = some m.cls := findClass_of_methodNamed B.named
  have hlocks := B.notSynchronized
  have hS : va_S (zA N0) s.heap s.heap [] := va_S.rf
  have hiw : ∀ w ∈ u_ws RX1 TX1 13, w ∈ wsX1_framesToRung := by decide +kernel
  have hl := lv_entry ([.ref h, .int w, .int p]) (n := 8) (Nat.le_of_ble_eq_true rfl)
  rw [lg_entry_eq]
  generalize (lg_sl ([.ref h, .int w, .int p]) ++ List.replicate (8 - (lg_sl ([.ref h, .int w, .int p])).length) Slot.unset).toArray = ls at hl ⊢
  have hl : lv_has ls 8 [(0, .ref h), (1, .int w), (2, .int p)] := hl
  refine lv_aload_n hx hb dX1_framesToRung_0 rfl (lv_at hl 0 rfl) ?_
  refine lv_iload_n hx hb dX1_framesToRung_1 rfl (lv_at hl 1 rfl) ?_
  refine vp_callSi ((va_runS (As := [.int w]) (rest := [.ref h]) ⟨hx, hb, hml, hown, hts⟩ (c_X1_isWren l w) (va_cwS 1 hts gX1_framesToRung_X1_isWren rfl rfl rfl (by decide +kernel) ⟨Nat.le_of_ble_eq_true rfl, Nat.le_of_ble_eq_true rfl⟩) ⟨zT.blind, zT.call⟩ rfl rfl hl.1 rfl (lv_room (Nat.le_of_ble_eq_true rfl)) dX1_framesToRung_2 ⟨Nat.zero_le _, Nat.zero_le _⟩).run) (fun r_2 h_2 => ?_)
  have h_2 : r_2 = (zb (zw w)) := h_2
  subst h_2
  refine lv_if_ne (tgt := 12) hx hb dX1_framesToRung_5 (by decide) (fun c_5 => ?_) (fun c_5 => ?_)
  · exact absurd (zb_t c_5) hw
  · refine lv_iconst (v := 1) hx hb dX1_framesToRung_8 (by decide) ?_
    refine lv_goto (tgt := 24) hx hb dX1_framesToRung_9 (by decide) ?_
    refine va_calli (va_runV (As := [.int 1]) (rest := []) ⟨hx, hb, hml, hown, hts⟩ (c_X1_holds_n l D N0 cA cL E h d (th) z c 1 (by decide)) (cwV 1 hts gX1_framesToRung_X1_holds rfl rfl rfl (by decide +kernel) ⟨Nat.le_of_ble_eq_true rfl, Nat.le_of_ble_eq_true rfl⟩) ⟨zPre.blind, va_recv hK hP (ci := 1) (q0 := 0) rfl rfl, zPre.call hN hP hD hK hE hS⟩ rfl rfl hl.1 rfl (lv_room (Nat.le_of_ble_eq_true rfl)) dX1_framesToRung_24 ⟨Nat.zero_le _, Nat.zero_le _⟩) hS (fun _ _ h9 => h9) (fun _ h9 => h9) (fun r_24 _ t H locs ht hvm h_24 hB hz1 hk1 hS => ?_)
    have h_24 : r_24 = 0 := h_24
    subst h_24
    obtain ⟨hP, hD⟩ := hB
    rw [ht] at hP
    have hP : va_P D vwCl (wM h d cA (1) z c ++ E) H := hP
    have hD : va_D (zA N0) (wM h d cA (1) z c ++ E) := hD
    refine lv_if_ne (tgt := 32) hx hb dX1_framesToRung_27 (by decide) (fun c_27 => absurd c_27 (by decide)) (fun _ => ?_)
    refine lv_iconst (v := 0) hx hb dX1_framesToRung_30 (by decide) ?_
    exact W.iret (v := 0) hx hb hr (fun t ht hW => ⟨⟨_, (), rfl, rfl, ⟨by rw [ht]; exact hP, hD⟩⟩, hS.F ht⟩) hS.2.2 dX1_framesToRung_31

set_option maxHeartbeats 4000000 in
set_option maxRecDepth 100000 in
theorem c_X1_framesToRung_2 (l : Launch) (D : va_G) (N0 : Nat) (cA cL : ClassId) (E : va_W) (h : Nat) (d : Nat → Nat) (th : Int32) (z : S7) (c : C5) (w : Int32) (p : Int32) (hw : zw w) (hp : ¬ zp p) : Met l yX1_framesToRung wsX1_framesToRung ({ frames := 2, cells := 0, slots := 0, locals := 42 }) (va_Pc [.ref h, .int w, .int p] (zPre D N0 cA cL (wM h d cA (th) z c ++ E))) (va_Qi (fun (rv : Int32) (_ : Unit) => rv = 0) (fun _ t => zPost D N0 (wM h d cA (2) z c ++ E) t) (zA N0)) 0 0 (zA N0) := by
  refine Met.ofW (cc := cX1_framesToRung) (maxL := 8) (ret := (some .int)) (by decide) rfl ?_
  intro pr e s m ag below meth cd s₁ B hml hv
  obtain ⟨rfl, hN, hP, hD, hK, hE⟩ := hv
  have hx := B.exec
  have hb := B.bytes
  have hr := B.returns
  have hts := atoms_spec (ws := wsX1_framesToRung) B.pre
  have hown : s.vm.findClass RX1 = some m.cls := findClass_of_methodNamed B.named
  have hlocks := B.notSynchronized
  have hS : va_S (zA N0) s.heap s.heap [] := va_S.rf
  have hiw : ∀ w ∈ u_ws RX1 TX1 13, w ∈ wsX1_framesToRung := by decide +kernel
  have hl := lv_entry ([.ref h, .int w, .int p]) (n := 8) (Nat.le_of_ble_eq_true rfl)
  rw [lg_entry_eq]
  generalize (lg_sl ([.ref h, .int w, .int p]) ++ List.replicate (8 - (lg_sl ([.ref h, .int w, .int p])).length) Slot.unset).toArray = ls at hl ⊢
  have hl : lv_has ls 8 [(0, .ref h), (1, .int w), (2, .int p)] := hl
  refine lv_aload_n hx hb dX1_framesToRung_0 rfl (lv_at hl 0 rfl) ?_
  refine lv_iload_n hx hb dX1_framesToRung_1 rfl (lv_at hl 1 rfl) ?_
  refine vp_callSi ((va_runS (As := [.int w]) (rest := [.ref h]) ⟨hx, hb, hml, hown, hts⟩ (c_X1_isWren l w) (va_cwS 1 hts gX1_framesToRung_X1_isWren rfl rfl rfl (by decide +kernel) ⟨Nat.le_of_ble_eq_true rfl, Nat.le_of_ble_eq_true rfl⟩) ⟨zT.blind, zT.call⟩ rfl rfl hl.1 rfl (lv_room (Nat.le_of_ble_eq_true rfl)) dX1_framesToRung_2 ⟨Nat.zero_le _, Nat.zero_le _⟩).run) (fun r_2 h_2 => ?_)
  have h_2 : r_2 = (zb (zw w)) := h_2
  subst h_2
  refine lv_if_ne (tgt := 12) hx hb dX1_framesToRung_5 (by decide) (fun c_5 => ?_) (fun c_5 => ?_)
  · refine lv_iload_n hx hb dX1_framesToRung_12 rfl (lv_at hl 2 rfl) ?_
    refine vp_callSi ((va_runS (As := [.int p]) (rest := [.ref h]) ⟨hx, hb, hml, hown, hts⟩ (c_X1_isPitch l p) (va_cwS 1 hts gX1_framesToRung_X1_isPitch rfl rfl rfl (by decide +kernel) ⟨Nat.le_of_ble_eq_true rfl, Nat.le_of_ble_eq_true rfl⟩) ⟨zT.blind, zT.call⟩ rfl rfl hl.1 rfl (lv_room (Nat.le_of_ble_eq_true rfl)) dX1_framesToRung_13 ⟨Nat.zero_le _, Nat.zero_le _⟩).run) (fun r_13 h_13 => ?_)
    have h_13 : r_13 = (zb (zp p)) := h_13
    subst h_13
    refine lv_if_eq (tgt := 23) hx hb dX1_framesToRung_16 (by decide) (fun c_16 => ?_) (fun c_16 => ?_)
    · refine lv_iconst (v := 2) hx hb dX1_framesToRung_23 (by decide) ?_
      refine va_calli (va_runV (As := [.int 2]) (rest := []) ⟨hx, hb, hml, hown, hts⟩ (c_X1_holds_n l D N0 cA cL E h d (th) z c 2 (by decide)) (cwV 1 hts gX1_framesToRung_X1_holds rfl rfl rfl (by decide +kernel) ⟨Nat.le_of_ble_eq_true rfl, Nat.le_of_ble_eq_true rfl⟩) ⟨zPre.blind, va_recv hK hP (ci := 1) (q0 := 0) rfl rfl, zPre.call hN hP hD hK hE hS⟩ rfl rfl hl.1 rfl (lv_room (Nat.le_of_ble_eq_true rfl)) dX1_framesToRung_24 ⟨Nat.zero_le _, Nat.zero_le _⟩) hS (fun _ _ h9 => h9) (fun _ h9 => h9) (fun r_24 _ t H locs ht hvm h_24 hB hz1 hk1 hS => ?_)
      have h_24 : r_24 = 0 := h_24
      subst h_24
      obtain ⟨hP, hD⟩ := hB
      rw [ht] at hP
      have hP : va_P D vwCl (wM h d cA (2) z c ++ E) H := hP
      have hD : va_D (zA N0) (wM h d cA (2) z c ++ E) := hD
      refine lv_if_ne (tgt := 32) hx hb dX1_framesToRung_27 (by decide) (fun c_27 => absurd c_27 (by decide)) (fun _ => ?_)
      refine lv_iconst (v := 0) hx hb dX1_framesToRung_30 (by decide) ?_
      exact W.iret (v := 0) hx hb hr (fun t ht hW => ⟨⟨_, (), rfl, rfl, ⟨by rw [ht]; exact hP, hD⟩⟩, hS.F ht⟩) hS.2.2 dX1_framesToRung_31
    · exact absurd (zb_t c_16) hp
  · exact absurd hw (zb_f c_5)
