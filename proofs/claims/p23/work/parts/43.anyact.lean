/-! whatever a cell says: an act is done, or it throws and changes nothing -/
abbrev zActM (v : Int32) (z : S7) (c : C5) (told : Int32) (z2 : S7) (c2 : C5) : Prop := ∀ (l : Launch) (D : va_G) (N0 : Nat) (cA cL : ClassId) (E : va_W) (h : Nat) (d : Nat → Nat), Met l yL_act wsL_act ({ frames := 10, cells := 0, slots := 0, locals := 300 }) (va_Pc [.ref h, .int v] (zPre D N0 cA cL (wX h d cA z c ++ E))) (va_Qi (fun (rv : Int32) (_ : Unit) => rv = told) (fun _ t => zPost D N0 (wX h d cA z2 c2 ++ E) t) (zA N0)) 0 0 (zA N0)
abbrev zActX (v : Int32) (z : S7) (c : C5) : Prop := ∀ (l : Launch) (_ : l.stackTraces = false) (D : va_G) (N0 : Nat) (cA cL : ClassId) (E : va_W) (h : Nat) (d : Nat → Nat), Met l yL_act wsL_act ({ frames := 10, cells := 1, slots := 6, locals := 300 }) (va_Pc [.ref h, .int v] (zPre D N0 cA cL (wX h d cA z c ++ E))) (va_Qi (fun (rv : Int32) (_ : Unit) => rv = (-99999)) (fun _ t => zPost D N0 (wX h d cA z c ++ E) t) (zA N0)) 1 6 (zA N0)
theorem zTg_c (k : Nat) : zTg k = 108 ∨ zTg k = 149 ∨ zTg k = 220 ∨ zTg k = 226 ∨ zTg k = 282 ∨ zTg k = 337 := by
  unfold zTg
  split <;> simp
theorem zLo_rg (v : Int32) {N : Nat} (h0 : 0 < N) (hN : N < 2 ^ 31) : 0 ≤ zLo v (nI N) ∧ zLo v (nI N) ≤ nI (N - 1) := by
  obtain ⟨k, hk, e⟩ := zLo_lt v h0 hN
  rw [e]
  exact ⟨nI_pos' (by omega), (nI_leI (by omega) (by omega)).mpr (by omega)⟩
theorem zw_i {w : Int32} (h : zw w) : w.toNatClampNeg < 4 := by
  obtain ⟨a, ha, rfl⟩ := nI_of2 (n := 3) (M := 3) rfl (Int32.not_lt.mpr h.1) h.2
  rw [nI_clamp (by omega)]
  omega
theorem zNearP {r q : Int32} (h1 : ¬ r ≤ 100) (h2 : ¬ 11900 ≤ r) (h3 : 0 ≤ q ∧ q ≤ 160) : zp ((r + q) - 80) := by
  have a1 : ¬ r.toInt ≤ 100 := fun x => h1 ((fa_le _ _).mpr x)
  have a2 : ¬ 11900 ≤ r.toInt := fun x => h2 ((fa_le _ _).mpr x)
  have a3 : 0 ≤ q.toInt := (fa_le _ _).mp h3.1
  have a4 : q.toInt ≤ 160 := (fa_le _ _).mp h3.2
  have e80 : (80 : Int32).toInt = 80 := rfl
  have e1 : (r + q).toInt = r.toInt + q.toInt := fb_addI (by omega) (by omega)
  have e2 : ((r + q) - 80).toInt = (r + q).toInt - (80 : Int32).toInt := fb_subI (by omega) (by omega)
  have e0 : (0 : Int32).toInt = 0 := rfl
  have e12 : (12000 : Int32).toInt = 12000 := rfl
  exact ⟨(fa_le _ _).mpr (by omega), (fa_le _ _).mpr (by omega)⟩
set_option maxHeartbeats 4000000 in
theorem act_even (v : Int32) {B : Nat} {z : S7} {c : C5} (hI : zInv B z c) (hB : B ≤ 9000) {k : Nat} (hk : zLo v 12 = nI k) (hk12 : k < 12) (ho : ¬ zLo (v >>> (22 &&& 31)) 8 = 0) : ∃ told z2 c2, ¬ told = -99999 ∧ zInv (B + 50) z2 c2 ∧ zActM v z c told z2 c2 := by
  have hc := hI.okC
  have hw : zw (zLo (v >>> (4 &&& 31)) 4) := zLo_rg _ (N := 4) (by decide) (by decide)
  have hp : zp (zLo (v >>> (6 &&& 31)) 12001) := zLo_rg _ (N := 12001) (by decide) (by decide)
  have hi := zw_i hw
  rcases zTg_c k with ht | ht | ht | ht | ht | ht
  · obtain ⟨k2, h1, e1⟩ := zLo_lt (v >>> (6 &&& 31)) (N := 12) (by decide) (by decide)
    obtain ⟨m2, h2, e2⟩ := zLo_lt (v >>> (9 &&& 31)) (N := 8) (by decide) (by decide)
    exact ⟨_, _, _, zLost_x _ _, (hI.scale h1 h2).mono (by omega), fun l D N0 cA cL E h d => c_L_act_scale_e l D N0 cA cL E h d z c v k hk hk12 ht ho k2 m2 e1 e2 h1 h2 hc⟩
  · have h1 : zIn (zLo (v >>> (5 &&& 31)) 101) 100 := zLo_rg _ (N := 101) (by decide) (by decide)
    have h2 : zIn (zLo (v >>> (8 &&& 31)) 601) 600 := zLo_rg _ (N := 601) (by decide) (by decide)
    have h3 : zIn (zLo (v >>> (11 &&& 31)) 1500) 1499 := zLo_rg _ (N := 1500) (by decide) (by decide)
    have h3 : zIn (zLo (v >>> (11 &&& 31)) 1500) 12000 := ⟨h3.1, Int32.le_trans h3.2 (by decide)⟩
    exact ⟨1, _, _, by decide, (hI.nudge h1).mono (by omega), fun l D N0 cA cL E h d => c_L_act_nudge_e l D N0 cA cL E h d z c v k hk hk12 ht ho h1 h2 h3⟩
  · exact ⟨_, _, _, zRung_x hI hi, (hI.rest _).mono (by omega), fun l D N0 cA cL E h d => c_L_act_rest_e l D N0 cA cL E h d z c v k hk hk12 ht ho hw⟩
  · have hq : zp (zLo (v >>> (9 &&& 31)) 12001) := zLo_rg _ (N := 12001) (by decide) (by decide)
    obtain ⟨f, hf, ef⟩ := zLo_lt (v >>> (13 &&& 31)) (N := 49) (by decide) (by decide)
    have ef : zLo (v >>> (13 &&& 31)) 49 = nI f := ef
    have ef2 : (zLo (v >>> (13 &&& 31)) 49) + 2 = nI (f + 2) := by rw [ef]; exact nI_add f 2
    have h9 := (hI.sl hi hp hq (f := f + 2) (by omega) (by omega) (f + 2) (Nat.le_refl _)).mono (B2 := B + 50) (by omega)
    exact ⟨_, _, _, zSlide_x hI h9 hB hi, h9, fun l D N0 cA cL E h d => c_L_act_slide_e l D N0 cA cL E h d z c v k hk hk12 ht ho (f + 2) ef2 hw hp hq (by omega) (by omega) hc⟩
  · by_cases g1 : zLe (z.1 (zLo (v >>> (4 &&& 31)) 4).toNatClampNeg) 100
    · exact ⟨_, _, _, zOut_x hI hi hp, (hI.sg hi hp).mono (by omega), fun l D N0 cA cL E h d => c_L_act_near_ea l D N0 cA cL E h d z c v k hk hk12 ht ho g1 hw hp hc⟩
    · by_cases g2 : zLe 11900 (z.1 (zLo (v >>> (4 &&& 31)) 4).toNatClampNeg)
      · exact ⟨_, _, _, zOut_x hI hi hp, (hI.sg hi hp).mono (by omega), fun l D N0 cA cL E h d => c_L_act_near_eb l D N0 cA cL E h d z c v k hk hk12 ht ho g1 g2 hw hp hc⟩
      · have hq := zNearP g1 g2 (zLo_rg (v >>> (6 &&& 31)) (N := 161) (by decide) (by decide))
        exact ⟨_, _, _, zOut_x hI hi hq, (hI.sg hi hq).mono (by omega), fun l D N0 cA cL E h d => c_L_act_near_ec l D N0 cA cL E h d z c v k hk hk12 ht ho g1 g2 hw hq hc⟩
  · exact ⟨_, _, _, zOut_x hI hi hp, (hI.sg hi hp).mono (by omega), fun l D N0 cA cL E h d => c_L_act_sing_e l D N0 cA cL E h d z c v k hk hk12 ht ho hw hp hc⟩
set_option maxHeartbeats 4000000 in
theorem act_odd (v : Int32) {B : Nat} {z : S7} {c : C5} (hI : zInv B z c) (hB : B ≤ 9000) {k : Nat} (hk : zLo v 12 = nI k) (hk12 : k < 12) (ho : zLo (v >>> (22 &&& 31)) 8 = 0) : (∃ told z2 c2, ¬ told = -99999 ∧ zInv (B + 50) z2 c2 ∧ zActM v z c told z2 c2) ∨ zActX v z c := by
  have hc := hI.okC
  rcases zTg_c k with ht | ht | ht | ht | ht | ht
  · obtain ⟨k2, h1, e1⟩ := zLo_lt (v >>> (6 &&& 31)) (N := 14) (by decide) (by decide)
    obtain ⟨m2, h2, e2⟩ := zLo_lt (v >>> (9 &&& 31)) (N := 10) (by decide) (by decide)
    have e1 : zLo (v >>> (6 &&& 31)) 14 = nI k2 := e1
    have e2 : zLo (v >>> (9 &&& 31)) 10 = nI m2 := e2
    by_cases hn : (zIn (zLo (v >>> (6 &&& 31)) 14) 11) ∧ (zIn (zLo (v >>> (9 &&& 31)) 10) 7)
    · have h3 : k2 ≤ 11 := (nI_leI (b := 11) (by omega) (by decide)).mp (by rw [← e1]; exact hn.1.2)
      have h4 : m2 ≤ 7 := (nI_leI (b := 7) (by omega) (by decide)).mp (by rw [← e2]; exact hn.2.2)
      exact Or.inl ⟨_, _, _, zLost_x _ _, (hI.scale (k2 := k2) (m2 := m2) (by omega) (by omega)).mono (by omega), fun l D N0 cA cL E h d => c_L_act_scale_o l D N0 cA cL E h d z c v k hk hk12 ht ho k2 m2 e1 e2 (by omega) (by omega) hc⟩
    · exact Or.inr fun l hst D N0 cA cL E h d => c_L_act_scale_x l hst D N0 cA cL E h d z c v k hk hk12 ht ho hn
  · by_cases hn : (zIn (zLo (v >>> (5 &&& 31)) 120) 100) ∧ (zIn (zLo (v >>> (8 &&& 31)) 700) 600) ∧ (zIn (zLo (v >>> (11 &&& 31)) 13000) 12000)
    · exact Or.inl ⟨1, _, _, by decide, (hI.nudge hn.1).mono (by omega), fun l D N0 cA cL E h d => c_L_act_nudge_o l D N0 cA cL E h d z c v k hk hk12 ht ho hn.1 hn.2.1 hn.2.2⟩
    · exact Or.inr fun l hst D N0 cA cL E h d => c_L_act_nudge_x l hst D N0 cA cL E h d z c v k hk hk12 ht ho hn
  · by_cases hw : zw (zLo (v >>> (4 &&& 31)) 6)
    · exact Or.inl ⟨_, _, _, zRung_x hI (zw_i hw), (hI.rest _).mono (by omega), fun l D N0 cA cL E h d => c_L_act_rest_o l D N0 cA cL E h d z c v k hk hk12 ht ho hw⟩
    · exact Or.inr fun l hst D N0 cA cL E h d => c_L_act_rest_x l hst D N0 cA cL E h d z c v k hk hk12 ht ho hw
  · by_cases hw : zw (zLo (v >>> (4 &&& 31)) 6)
    · by_cases hn : zp (zLo (v >>> (6 &&& 31)) 13000) ∧ zp (zLo (v >>> (9 &&& 31)) 13000) ∧ zFr ((zLo (v >>> (13 &&& 31)) 55) + 0)
      · obtain ⟨f, hf, ef⟩ := zLo_lt (v >>> (13 &&& 31)) (N := 55) (by decide) (by decide)
        have ef : zLo (v >>> (13 &&& 31)) 55 = nI f := ef
        have ef2 : ((zLo (v >>> (13 &&& 31)) 55) + 0) = nI f := by rw [ef]; exact Int32.add_zero _
        have h2 : 2 ≤ f := (nI_leI (a := 2) (by decide) (by omega)).mp (by rw [← ef2]; exact hn.2.2.1)
        have h3 : f ≤ 50 := (nI_leI (b := 50) (by omega) (by decide)).mp (by rw [← ef2]; exact hn.2.2.2)
        have h9 := (hI.sl (zw_i hw) hn.1 hn.2.1 h2 h3 f (Nat.le_refl _)).mono (B2 := B + 50) (by omega)
        exact Or.inl ⟨_, _, _, zSlide_x hI h9 hB (zw_i hw), h9, fun l D N0 cA cL E h d => c_L_act_slide_o l D N0 cA cL E h d z c v k hk hk12 ht ho f ef2 hw hn.1 hn.2.1 h2 h3 hc⟩
      · exact Or.inr fun l hst D N0 cA cL E h d => c_L_act_slide_x2 l hst D N0 cA cL E h d z c v k hk hk12 ht ho hw hn
    · exact Or.inr fun l hst D N0 cA cL E h d => c_L_act_slide_x1 l hst D N0 cA cL E h d z c v k hk hk12 ht ho hw
  · by_cases hw : zw (zLo (v >>> (4 &&& 31)) 6)
    · by_cases hp : zp (zLo (v >>> (6 &&& 31)) 13000)
      · exact Or.inl ⟨_, _, _, zOut_x hI (zw_i hw) hp, (hI.sg (zw_i hw) hp).mono (by omega), fun l D N0 cA cL E h d => c_L_act_near_o l D N0 cA cL E h d z c v k hk hk12 ht ho hw hp hc⟩
      · exact Or.inr fun l hst D N0 cA cL E h d => c_L_act_near_x2 l hst D N0 cA cL E h d z c v k hk hk12 ht ho hw hp
    · exact Or.inr fun l hst D N0 cA cL E h d => c_L_act_near_x1 l hst D N0 cA cL E h d z c v k hk hk12 ht ho hw
  · by_cases hw : zw (zLo (v >>> (4 &&& 31)) 6)
    · by_cases hp : zp (zLo (v >>> (6 &&& 31)) 13000)
      · exact Or.inl ⟨_, _, _, zOut_x hI (zw_i hw) hp, (hI.sg (zw_i hw) hp).mono (by omega), fun l D N0 cA cL E h d => c_L_act_sing_o l D N0 cA cL E h d z c v k hk hk12 ht ho hw hp hc⟩
      · exact Or.inr fun l hst D N0 cA cL E h d => c_L_act_sing_x2 l hst D N0 cA cL E h d z c v k hk hk12 ht ho hw hp
    · exact Or.inr fun l hst D N0 cA cL E h d => c_L_act_sing_x1 l hst D N0 cA cL E h d z c v k hk hk12 ht ho hw
theorem act_any (v : Int32) {B : Nat} {z : S7} {c : C5} (hI : zInv B z c) (hB : B ≤ 9000) : (∃ told z2 c2, ¬ told = -99999 ∧ zInv (B + 50) z2 c2 ∧ zActM v z c told z2 c2) ∨ zActX v z c := by
  obtain ⟨k, hk12, hk⟩ := zLo_lt v (N := 12) (by decide) (by decide)
  by_cases ho : zLo (v >>> (22 &&& 31)) 8 = 0
  · exact act_odd v hI hB hk hk12 ho
  · exact Or.inl (act_even v hI hB hk hk12 ho)
