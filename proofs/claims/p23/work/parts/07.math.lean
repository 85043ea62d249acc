theorem fb_rng (x : Int32) : -2147483648 ≤ x.toInt ∧ x.toInt < 2147483648 := by
  have h1 := Int32.le_toInt x
  have h2 := Int32.toInt_lt x
  omega
theorem fb_bmod {z : Int} (h1 : -2147483648 ≤ z) (h2 : z < 2147483648) : z.bmod (2 ^ 32) = z := by
  rw [Int.bmod_eq_of_le (by omega) (by omega)]
theorem fb_addI {x y : Int32} (h1 : -2147483648 ≤ x.toInt + y.toInt) (h2 : x.toInt + y.toInt < 2147483648) : (x + y).toInt = x.toInt + y.toInt := by
  rw [Int32.toInt_add, fb_bmod h1 h2]
theorem fb_subI {x y : Int32} (h1 : -2147483648 ≤ x.toInt - y.toInt) (h2 : x.toInt - y.toInt < 2147483648) : (x - y).toInt = x.toInt - y.toInt := by
  rw [Int32.toInt_sub, fb_bmod h1 h2]
theorem fb_mulI {x y : Int32} (h1 : -2147483648 ≤ x.toInt * y.toInt) (h2 : x.toInt * y.toInt < 2147483648) : (x * y).toInt = x.toInt * y.toInt := by
  rw [Int32.toInt_mul, fb_bmod h1 h2]
theorem fb_negI {x : Int32} (h : x.toInt ≠ -2147483648) : (-x).toInt = -x.toInt := by
  have := fb_rng x
  rw [Int32.toInt_neg, fb_bmod (by omega) (by omega)]
theorem zb_nar (P : Prop) [Decidable P] : narrow .boolean (.int (zb P)) = .int (zb P) := by
  by_cases h : P
  · rw [zb_1 h]; rfl
  · rw [zb_0 h]; rfl
theorem z_divI (x : Int32) {d : Nat} (h0 : 0 < d) (hd : d < 2 ^ 31) : (x / nI d).toInt = x.toInt.tdiv d := by
  have hx := fb_rng x
  have hdI : (nI d).toInt = (d : Int) := nI_toInt hd
  rw [Int32.toInt_div_of_ne_right _ _ (fun q => by have := congrArg Int32.toInt q; rw [hdI] at this; have h9 : (-1 : Int32).toInt = -1 := rfl; omega), hdI]
theorem z_rem (x : Int32) {d : Nat} (h0 : 0 < d) (hd : d < 2 ^ 31) : (x - x / nI d * nI d).toInt = x.toInt.tmod d := by
  have hx := fb_rng x
  have hdI : (nI d).toInt = (d : Int) := nI_toInt hd
  have e1 := z_divI x h0 hd
  have h2 := Int.mul_tdiv_self x.toInt (d : Int)
  have h3 : (x.toInt.tmod d).natAbs < d := by rw [Int.natAbs_tmod]; exact Nat.mod_lt _ (by omega)
  have h5 : x.toInt.tdiv d * (d : Int) = x.toInt - x.toInt.tmod d := by rw [Int.mul_comm]; exact h2
  have h6 : (x / nI d * nI d).toInt = x.toInt - x.toInt.tmod d := by
    rw [← h5, ← e1, ← hdI]
    refine fb_mulI ?_ ?_
    · rw [e1, hdI, h5]
      rcases Int.lt_or_le x.toInt 0 with q | q
      · have h4 : x.toInt.tmod d ≤ 0 := by
          have := Int.tmod_nonneg (a := -x.toInt) (d : Int) (by omega)
          rw [Int.neg_tmod] at this
          omega
        omega
      · have h4 : 0 ≤ x.toInt.tmod d := Int.tmod_nonneg _ q
        omega
    · rw [e1, hdI, h5]
      rcases Int.lt_or_le x.toInt 0 with q | q
      · omega
      · have h4 : 0 ≤ x.toInt.tmod d := Int.tmod_nonneg _ q
        omega
  rw [fb_subI (by omega) (by omega), h6]
  omega
theorem zFM_toInt (x : Int32) {d : Nat} (h0 : 0 < d) (hd : d < 2 ^ 31) : (zFM x d).toInt = x.toInt % d := by
  have h1 := Int.emod_nonneg x.toInt (show (d : Int) ≠ 0 by omega)
  have h2 := Int.emod_lt_of_pos x.toInt (show (0 : Int) < d by omega)
  unfold zFM
  rw [nI_toInt (by omega)]
  omega
theorem z_neg (x : Int32) : x < 0 ↔ x.toInt < 0 := by
  rw [fa_lt]
  have : (0 : Int32).toInt = 0 := rfl
  rw [this]
theorem z_xor (x y : Int32) : (x ^^^ y) < 0 ↔ ((x.toInt < 0) ≠ (y.toInt < 0)) := by
  rw [z_neg]
  have e : ∀ w : Int32, (w.toInt < 0) ↔ w.toBitVec.msb = true := by
    intro w
    rw [BitVec.msb_eq_toInt]
    show w.toBitVec.toInt < 0 ↔ _
    simp
  rw [e (x ^^^ y), Int32.toBitVec_xor, BitVec.msb_xor]
  have ex := e x
  have ey := e y
  cases h1 : x.toBitVec.msb <;> cases h2 : y.toBitVec.msb <;> simp_all
theorem zFM_1 (x : Int32) {d : Nat} (h0 : 0 < d) (hd : d < 2 ^ 31) (h : 0 ≤ (x ^^^ nI d)) : x - x / nI d * nI d = zFM x d := by
  rw [fa_eq, z_rem x h0 hd, zFM_toInt x h0 hd]
  have hdI : (nI d).toInt = (d : Int) := nI_toInt hd
  have h1 : ¬ ((x ^^^ nI d) < 0) := Int32.not_lt.mpr h
  rw [z_xor, hdI] at h1
  have h2 : 0 ≤ x.toInt := by
    rcases Int.lt_or_le x.toInt 0 with q | q
    · exact absurd (show (x.toInt < 0) ≠ ((d : Int) < 0) from fun e => by have := e ▸ q; omega) h1
    · exact q
  exact Int.tmod_eq_emod_of_nonneg h2
theorem zFM_s (x : Int32) {d : Nat} (hd : d < 2 ^ 31) (h : ¬ 0 ≤ (x ^^^ nI d)) : x.toInt < 0 := by
  have hdI : (nI d).toInt = (d : Int) := nI_toInt hd
  have h1 : (x ^^^ nI d) < 0 := Int32.not_le.mp h
  rw [z_xor, hdI] at h1
  rcases Int.lt_or_le x.toInt 0 with q | q
  · exact q
  · exact absurd (by rw [eq_iff_iff]; constructor <;> intro <;> omega) h1
theorem zFM_2 (x : Int32) {d : Nat} (h0 : 0 < d) (hd : d < 2 ^ 31) (h : x - x / nI d * nI d = 0) : x - x / nI d * nI d = zFM x d := by
  rw [fa_eq, z_rem x h0 hd, zFM_toInt x h0 hd]
  have h1 := (fa_eq _ _).mp h
  rw [z_rem x h0 hd] at h1
  have h2 : (0 : Int32).toInt = 0 := rfl
  rw [h2] at h1
  rw [h1]
  exact (Int.emod_eq_zero_of_dvd (Int.dvd_of_tmod_eq_zero h1)).symm
theorem zFM_3 (x : Int32) {d : Nat} (h0 : 0 < d) (hd : d < 2 ^ 31) (hx : ¬ 0 ≤ (x ^^^ nI d)) (h : ¬ x - x / nI d * nI d = 0) : (x - x / nI d * nI d) + nI d = zFM x d := by
  have hs := zFM_s x hd hx
  have hr := z_rem x h0 hd
  have hdI : (nI d).toInt = (d : Int) := nI_toInt hd
  have h1 : ¬ x.toInt.tmod d = 0 := fun q => h (by rw [fa_eq, hr, q]; rfl)
  have h3 : (x.toInt.tmod d).natAbs < d := by rw [Int.natAbs_tmod]; exact Nat.mod_lt _ (by omega)
  have h4 : x.toInt.tmod d = x.toInt % d - d := by
    have := Int.tmod_eq_emod (a := x.toInt) (b := (d : Int))
    rw [if_neg (fun q => by
      rcases q with q | q
      · omega
      · exact h1 (Int.tmod_eq_zero_of_dvd q))] at this
    rw [this]; simp
  have h7 := Int.emod_lt_of_pos x.toInt (show (0 : Int) < d by omega)
  rw [fa_eq, zFM_toInt x h0 hd, fb_addI (by rw [hr, hdI]; omega) (by rw [hr, hdI]; omega), hr, hdI]
  omega
def zFD (x : Int32) (d : Nat) : Int32 := Int32.ofInt (x.toInt / d)
theorem zFD_toInt (x : Int32) {d : Nat} (h0 : 0 < d) : (zFD x d).toInt = x.toInt / d := by
  have hx := fb_rng x
  have h1 := Int.mul_ediv_add_emod x.toInt d
  have h2 := Int.emod_nonneg x.toInt (show (d : Int) ≠ 0 by omega)
  unfold zFD
  rw [Int32.toInt_ofInt]
  have h3 : x.toInt / (d : Int) ≤ x.toInt ∨ x.toInt / (d : Int) ≤ 0 := by
    rcases Int.lt_or_le x.toInt 0 with q | q
    · exact Or.inr (Int.le_of_lt (Int.ediv_neg_of_neg_of_pos q (by omega)))
    · exact Or.inl (Int.ediv_le_self _ q)
  have h4 : -2147483648 ≤ x.toInt / (d : Int) := by
    refine (Int.le_ediv_iff_mul_le (by omega)).mpr ?_
    have : (-2147483648 : Int) * d ≤ -2147483648 * 1 := Int.mul_le_mul_of_nonpos_left (by omega) (by omega)
    omega
  exact fb_bmod h4 (by omega)
theorem zFD_1 (x : Int32) {d : Nat} (h0 : 0 < d) (hd : d < 2 ^ 31) (h : 0 ≤ (x ^^^ nI d)) : x / nI d = zFD x d := by
  rw [fa_eq, z_divI x h0 hd, zFD_toInt x h0]
  have hdI : (nI d).toInt = (d : Int) := nI_toInt hd
  have h1 : ¬ ((x ^^^ nI d) < 0) := Int32.not_lt.mpr h
  rw [z_xor, hdI] at h1
  have h2 : 0 ≤ x.toInt := by
    rcases Int.lt_or_le x.toInt 0 with q | q
    · exact absurd (show (x.toInt < 0) ≠ ((d : Int) < 0) from fun e => by have := e ▸ q; omega) h1
    · exact q
  exact Int.tdiv_eq_ediv_of_nonneg h2
theorem z_mulDiv (x : Int32) {d : Nat} (h0 : 0 < d) (hd : d < 2 ^ 31) : x / nI d * nI d = x ↔ (d : Int) ∣ x.toInt := by
  have hr := z_rem x h0 hd
  constructor
  · intro h
    rw [h] at hr
    have h2 : (x - x).toInt = 0 := by rw [Int32.sub_self]; rfl
    rw [h2] at hr
    exact Int.dvd_of_tmod_eq_zero hr.symm
  · intro h
    have h1 := Int.tmod_eq_zero_of_dvd h
    rw [h1] at hr
    have h3 : x - x / nI d * nI d = 0 := by rw [fa_eq, hr]; rfl
    have h4 := Int32.sub_eq_iff_eq_add.mp h3
    rw [Int32.zero_add] at h4
    exact h4.symm
theorem zFD_2 (x : Int32) {d : Nat} (h0 : 0 < d) (hd : d < 2 ^ 31) (h : x / nI d * nI d = x) : x / nI d = zFD x d := by
  rw [fa_eq, z_divI x h0 hd, zFD_toInt x h0]
  exact Int.tdiv_eq_ediv_of_dvd ((z_mulDiv x h0 hd).mp h)
theorem zFD_3 (x : Int32) {d : Nat} (h0 : 0 < d) (hd : d < 2 ^ 31) (hx : ¬ 0 ≤ (x ^^^ nI d)) (h : ¬ x / nI d * nI d = x) : x / nI d - 1 = zFD x d := by
  have hs := zFM_s x hd hx
  have hr := fb_rng x
  have e := z_divI x h0 hd
  have e2 := zFD_toInt x h0
  have h1 : ¬ (d : Int) ∣ x.toInt := fun q => h ((z_mulDiv x h0 hd).mpr q)
  have h4 : x.toInt.tdiv d = x.toInt / d + 1 := by
    have := Int.tdiv_eq_ediv (a := x.toInt) (b := (d : Int))
    rw [if_neg (fun q => by
      rcases q with q | q
      · omega
      · exact h1 q)] at this
    rw [this, Int.sign_eq_one_of_pos (by omega)]
  have e3 := fb_rng (zFD x d)
  have h5 : (1 : Int32).toInt = 1 := rfl
  rw [fa_eq, e2, fb_subI (by rw [e, h5]; omega) (by rw [e, h5]; omega), e, h5]
  omega
theorem zFM_nI {a d : Nat} (ha : a < 2 ^ 31) : zFM (nI a) d = nI (a % d) := by
  unfold zFM
  rw [nI_toInt ha]
  congr 1
theorem z_lit {a b : Nat} (ha : a < 2 ^ 31) (hb : b < 2 ^ 31) (h : nI a = nI b) : a = b := (nI_eq ha hb).mp h
theorem zSem_fm {p : Int32} (hp : zp p) : zFM ((p + 50) / 100) 12 = nI (zSem p) := by
  obtain ⟨n, hn, rfl⟩ := nI_of2 (n := 12000) (M := 12000) rfl (Int32.not_lt.mpr hp.1) hp.2
  have e1 : nI n + 50 = nI (n + 50) := nI_add n 50
  have e2 : nI (n + 50) / 100 = nI ((n + 50) / 100) := pk_div (d := 100) (by omega) (by decide) (by decide)
  rw [e1, e2, zFM_nI (by omega)]
  unfold zSem
  rw [nI_clamp (by omega)]
theorem zStep_1 {c : C5} {p : Int32} (h : ¬ (0 ≤ p ∧ p ≤ 12000 ∧ p - p / 100 * 100 = 0)) : zStep c p = -1 := if_neg h
theorem zStep_X {c : C5} {p : Int32} (hc : okC c) (h : 0 ≤ p ∧ p ≤ 12000 ∧ p - p / 100 * 100 = 0) : zSt c.2.1 ((p / 100 - nI c.1).toInt % 12).toNat = zStep c p := by
  unfold zStep
  rw [if_pos h]
  obtain ⟨n, hn, rfl⟩ := nI_of2 (n := 12000) (M := 12000) rfl (Int32.not_lt.mpr h.1) h.2.1
  have e2 : nI n / 100 = nI (n / 100) := pk_div (d := 100) (by omega) (by decide) (by decide)
  have h1 := hc.1
  rw [e2, pk_sub_toInt (by omega) (by omega), nI_clamp (by omega)]
  congr 1
  omega
