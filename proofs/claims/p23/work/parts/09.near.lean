/-! the nearest rung: by a scan of all hundreds; by the one below and the one above -/
def zD (a j : Nat) : Nat := if 100 * j < a then a - 100 * j else 100 * j - a
theorem zFar_D {a j : Nat} (ha : a ≤ 12000) (hj : j ≤ 120) : zFar (nI (100 * j)) (nI a) = nI (zD a j) := by
  unfold zFar zD
  by_cases h : 100 * j < a
  · rw [if_pos (nI_lt h (by omega)), if_pos h, pk_sub (by omega)]
  · rw [if_neg (nI_nlt (by omega) (by omega)), if_neg h, pk_sub (by omega)]
theorem zD_lt {a j : Nat} (ha : a ≤ 12000) (hj : j ≤ 120) : zD a j < 2 ^ 31 := by
  unfold zD
  split <;> omega
theorem zNearN_char {c : C5} (hc : okC c) {a : Nat} (ha : a ≤ 12000) : ∀ n, n ≤ 121 →
    (zNearN c (nI a) n = -1 ∧ ∀ i, i < n → zStep c (nI (100 * i)) = -1) ∨
    ∃ j, j < n ∧ zNearN c (nI a) n = nI (100 * j) ∧ ¬ zStep c (nI (100 * j)) = -1 ∧ ∀ i, i < n → ¬ zStep c (nI (100 * i)) = -1 → zD a j < zD a i ∨ (zD a j = zD a i ∧ j ≤ i) := by
  intro n
  induction n with
  | zero => exact fun _ => Or.inl ⟨rfl, fun i hi => absurd hi (Nat.not_lt_zero i)⟩
  | succ n ih =>
    intro hn
    have hr := zStep_neg hc (nI (100 * n))
    by_cases hp : zStep c (nI (100 * n)) = -1
    · have e : zNearN c (nI a) (n + 1) = zNearN c (nI a) n := by
        show (if _ then _ else _) = _
        rw [if_neg (fun q => q.1 (hr.mpr hp))]
      rw [e]
      rcases ih (by omega) with ⟨h1, h2⟩ | ⟨j, h1, h2, h3, h4⟩
      · refine Or.inl ⟨h1, fun i hi => ?_⟩
        rcases Nat.lt_or_ge i n with q | q
        · exact h2 i q
        · rw [show i = n by omega]; exact hp
      · refine Or.inr ⟨j, by omega, h2, h3, fun i hi hpi => ?_⟩
        rcases Nat.lt_or_ge i n with q | q
        · exact h4 i q hpi
        · exact absurd (by rw [show i = n by omega]; exact hp) hpi
    · have hp2 : ¬ zStep c (nI (100 * n)) < 0 := fun q => hp (hr.mp q)
      rcases ih (by omega) with ⟨h1, h2⟩ | ⟨j, h1, h2, h3, h4⟩
      · refine Or.inr ⟨n, by omega, ?_, hp, fun i hi hpi => ?_⟩
        · show (if _ then _ else _) = _
          rw [if_pos ⟨hp2, Or.inl (by rw [h1]; decide)⟩]
        · rcases Nat.lt_or_ge i n with q | q
          · exact absurd (h2 i q) hpi
          · rw [show i = n by omega]; exact Or.inr ⟨rfl, Nat.le_refl _⟩
      · have hj0 : ¬ nI (100 * j) < 0 := nI_pos (by omega)
        by_cases hd : zD a n < zD a j
        · refine Or.inr ⟨n, by omega, ?_, hp, fun i hi hpi => ?_⟩
          · show (if _ then _ else _) = _
            rw [if_pos ⟨hp2, Or.inr (by rw [h2, zFar_D ha (by omega), zFar_D ha (by omega)]; exact nI_lt hd (zD_lt ha (by omega)))⟩]
          · rcases Nat.lt_or_ge i n with q | q
            · have := h4 i q hpi
              omega
            · rw [show i = n by omega]; exact Or.inr ⟨rfl, Nat.le_refl _⟩
        · refine Or.inr ⟨j, by omega, ?_, h3, fun i hi hpi => ?_⟩
          · show (if _ then _ else _) = _
            rw [if_neg, h2]
            rintro ⟨-, q | q⟩
            · rw [h2] at q; exact hj0 q
            · rw [h2, zFar_D ha (by omega), zFar_D ha (by omega)] at q
              exact nI_nlt (by omega) (zD_lt ha (by omega)) q
          · rcases Nat.lt_or_ge i n with q | q
            · exact h4 i q hpi
            · have : i = n := by omega
              subst this
              omega
theorem zNear_is {c : C5} (hc : okC c) {a j : Nat} (ha : a ≤ 12000) (hj : j ≤ 120) (hp : ¬ zStep c (nI (100 * j)) = -1) (hb : ∀ i, i ≤ 120 → ¬ zStep c (nI (100 * i)) = -1 → zD a j < zD a i ∨ (zD a j = zD a i ∧ j ≤ i)) : zNear c (nI a) = nI (100 * j) := by
  rcases zNearN_char hc ha 121 (Nat.le_refl _) with ⟨h1, h2⟩ | ⟨j2, h1, h2, h3, h4⟩
  · exact absurd (h2 j (by omega)) hp
  · have q1 := h4 j (by omega) hp
    have q2 := hb j2 (by omega) h3
    show zNearN c (nI a) 121 = _
    rw [h2, show j2 = j by omega]
theorem zNear_no {c : C5} (hc : okC c) {a : Nat} (ha : a ≤ 12000) (h : ∀ i, i ≤ 120 → zStep c (nI (100 * i)) = -1) : zNear c (nI a) = -1 := by
  rcases zNearN_char hc ha 121 (Nat.le_refl _) with ⟨h1, h2⟩ | ⟨j2, h1, h2, h3, h4⟩
  · exact h1
  · exact absurd (h j2 (by omega)) h3
def zBelN (c : C5) : Nat → Int32
  | 0 => -1
  | k + 1 => if zStep c (nI (100 * k)) = -1 then zBelN c k else nI (100 * k)
def zBel (c : C5) (p : Int32) : Int32 := zBelN c (p.toNatClampNeg / 100 + 1)
def zAboN (c : C5) : Nat → Nat → Int32
  | 0, _ => -1
  | f + 1, j => if zStep c (nI (100 * j)) = -1 then zAboN c f (j + 1) else nI (100 * j)
def zAbo (c : C5) (p : Int32) : Int32 := zAboN c (120 - p.toNatClampNeg / 100) (p.toNatClampNeg / 100 + 1)
theorem zBelN_char (c : C5) : ∀ k, (zBelN c k = -1 ∧ ∀ i, i < k → zStep c (nI (100 * i)) = -1) ∨ ∃ j, j < k ∧ zBelN c k = nI (100 * j) ∧ ¬ zStep c (nI (100 * j)) = -1 ∧ ∀ i, j < i → i < k → zStep c (nI (100 * i)) = -1 := by
  intro k
  induction k with
  | zero => exact Or.inl ⟨rfl, fun i hi => absurd hi (Nat.not_lt_zero i)⟩
  | succ k ih =>
    by_cases hp : zStep c (nI (100 * k)) = -1
    · have e : zBelN c (k + 1) = zBelN c k := if_pos hp
      rw [e]
      rcases ih with ⟨h1, h2⟩ | ⟨j, h1, h2, h3, h4⟩
      · refine Or.inl ⟨h1, fun i hi => ?_⟩
        rcases Nat.lt_or_ge i k with q | q
        · exact h2 i q
        · rw [show i = k by omega]; exact hp
      · refine Or.inr ⟨j, by omega, h2, h3, fun i hi hi2 => ?_⟩
        rcases Nat.lt_or_ge i k with q | q
        · exact h4 i hi q
        · rw [show i = k by omega]; exact hp
    · exact Or.inr ⟨k, by omega, if_neg hp, hp, fun i hi hi2 => absurd hi (by omega)⟩
theorem zAboN_char (c : C5) : ∀ f j, (zAboN c f j = -1 ∧ ∀ i, j ≤ i → i < j + f → zStep c (nI (100 * i)) = -1) ∨ ∃ i0, j ≤ i0 ∧ i0 < j + f ∧ zAboN c f j = nI (100 * i0) ∧ ¬ zStep c (nI (100 * i0)) = -1 ∧ ∀ i, j ≤ i → i < i0 → zStep c (nI (100 * i)) = -1 := by
  intro f
  induction f with
  | zero => exact fun j => Or.inl ⟨rfl, fun i h1 h2 => absurd h2 (by omega)⟩
  | succ f ih =>
    intro j
    by_cases hp : zStep c (nI (100 * j)) = -1
    · have e : zAboN c (f + 1) j = zAboN c f (j + 1) := if_pos hp
      rw [e]
      rcases ih (j + 1) with ⟨h1, h2⟩ | ⟨i0, h1, h2, h3, h4, h5⟩
      · refine Or.inl ⟨h1, fun i hi hi2 => ?_⟩
        rcases Nat.lt_or_ge j i with q | q
        · exact h2 i q (by omega)
        · rw [show i = j by omega]; exact hp
      · refine Or.inr ⟨i0, by omega, by omega, h3, h4, fun i hi hi2 => ?_⟩
        rcases Nat.lt_or_ge j i with q | q
        · exact h5 i q hi2
        · rw [show i = j by omega]; exact hp
    · exact Or.inr ⟨j, by omega, by omega, if_neg hp, hp, fun i hi hi2 => absurd hi (by omega)⟩
theorem zNear_1 {c : C5} (hc : okC c) {p : Int32} (hp : zp p) (h : zBel c p = -1) : zAbo c p = zNear c p := by
  obtain ⟨a, ha, rfl⟩ := nI_of2 (n := 12000) (M := 12000) rfl (Int32.not_lt.mpr hp.1) hp.2
  unfold zBel at h
  unfold zAbo
  rw [nI_clamp (by omega)] at h ⊢
  have hb : ∀ i, i < a / 100 + 1 → zStep c (nI (100 * i)) = -1 := by
    rcases zBelN_char c (a / 100 + 1) with ⟨-, h2⟩ | ⟨j, h1, h2, h3, h4⟩
    · exact h2
    · rw [h] at h2
      have h9 : nI (100 * j) < 0 := by rw [← h2]; decide
      exact absurd h9 (nI_pos (by omega))
  rcases zAboN_char c (120 - a / 100) (a / 100 + 1) with ⟨h1, h2⟩ | ⟨j, h1, h2, h3, h4, h5⟩
  · rw [h1, zNear_no hc ha (fun i hi => ?_)]
    rcases Nat.lt_or_ge i (a / 100 + 1) with q | q
    · exact hb i q
    · exact h2 i q (by omega)
  · rw [h3]
    refine (zNear_is hc ha (by omega) h4 (fun i hi hpi => ?_)).symm
    have q1 : ¬ i < a / 100 + 1 := fun q => hpi (hb i q)
    have q2 : ¬ i < j := fun q => hpi (h5 i (by omega) q)
    unfold zD
    split <;> split <;> omega
theorem zNear_2 {c : C5} (hc : okC c) {p : Int32} (hp : zp p) (h : ¬ zBel c p = -1) (h2 : zAbo c p = -1) : zBel c p = zNear c p := by
  obtain ⟨a, ha, rfl⟩ := nI_of2 (n := 12000) (M := 12000) rfl (Int32.not_lt.mpr hp.1) hp.2
  unfold zAbo at h2
  unfold zBel at h ⊢
  rw [nI_clamp (by omega)] at h h2 ⊢
  have hb : ∀ i, a / 100 + 1 ≤ i → i ≤ 120 → zStep c (nI (100 * i)) = -1 := by
    rcases zAboN_char c (120 - a / 100) (a / 100 + 1) with ⟨-, g2⟩ | ⟨j, g1, g2, g3, g4, g5⟩
    · exact fun i q1 q2 => g2 i q1 (by omega)
    · rw [h2] at g3
      have h9 : nI (100 * j) < 0 := by rw [← g3]; decide
      exact absurd h9 (nI_pos (by omega))
  rcases zBelN_char c (a / 100 + 1) with ⟨g1, -⟩ | ⟨j, g1, g2, g3, g4⟩
  · exact absurd g1 h
  · rw [g2]
    refine (zNear_is hc ha (by omega) g3 (fun i hi hpi => ?_)).symm
    have q1 : i < a / 100 + 1 := by
      rcases Nat.lt_or_ge i (a / 100 + 1) with q | q
      · exact q
      · exact absurd (hb i q hi) hpi
    have q2 : ¬ j < i := fun q => hpi (g4 i q q1)
    unfold zD
    split <;> split <;> omega
theorem zNear_both {c : C5} (hc : okC c) {p : Int32} (hp : zp p) (h : ¬ zBel c p = -1) (h2 : ¬ zAbo c p = -1) : (zAbo c p - p < p - zBel c p → zAbo c p = zNear c p) ∧ (¬ zAbo c p - p < p - zBel c p → zBel c p = zNear c p) := by
  obtain ⟨a, ha, rfl⟩ := nI_of2 (n := 12000) (M := 12000) rfl (Int32.not_lt.mpr hp.1) hp.2
  unfold zAbo at h2 ⊢
  unfold zBel at h ⊢
  rw [nI_clamp (by omega)] at h h2 ⊢
  rcases zBelN_char c (a / 100 + 1) with ⟨g1, -⟩ | ⟨j, g1, g2, g3, g4⟩
  · exact absurd g1 h
  rcases zAboN_char c (120 - a / 100) (a / 100 + 1) with ⟨f1, -⟩ | ⟨k, f1, f2, f3, f4, f5⟩
  · exact absurd f1 h2
  rw [g2, f3, pk_sub (a := 100 * k) (b := a) (by omega), pk_sub (a := a) (b := 100 * j) (by omega), nI_ltI (by omega) (by omega)]
  constructor
  · intro hd
    refine (zNear_is hc ha (by omega) f4 (fun i hi hpi => ?_)).symm
    rcases Nat.lt_or_ge i (a / 100 + 1) with q1 | q1
    · have q2 : ¬ j < i := fun q => hpi (g4 i q q1)
      unfold zD
      split <;> split <;> omega
    · have q2 : ¬ i < k := fun q => hpi (f5 i q1 q)
      unfold zD
      split <;> split <;> omega
  · intro hd
    refine (zNear_is hc ha (by omega) g3 (fun i hi hpi => ?_)).symm
    rcases Nat.lt_or_ge i (a / 100 + 1) with q1 | q1
    · have q2 : ¬ j < i := fun q => hpi (g4 i q q1)
      unfold zD
      split <;> split <;> omega
    · have q2 : ¬ i < k := fun q => hpi (f5 i q1 q)
      unfold zD
      split <;> split <;> omega
theorem zNear_rng {c : C5} (hc : okC c) {p : Int32} (hp : zp p) : zNear c p = -1 ∨ (0 ≤ zNear c p ∧ zNear c p ≤ 12000) := by
  obtain ⟨a, ha, rfl⟩ := nI_of2 (n := 12000) (M := 12000) rfl (Int32.not_lt.mpr hp.1) hp.2
  rcases zNearN_char hc ha 121 (Nat.le_refl _) with ⟨h1, h2⟩ | ⟨j2, h1, h2, h3, h4⟩
  · exact Or.inl h1
  · refine Or.inr ?_
    show 0 ≤ zNearN c (nI a) 121 ∧ zNearN c (nI a) 121 ≤ 12000
    rw [h2]
    exact ⟨nI_pos' (by omega), (nI_leI (b := 12000) (by omega) (by decide)).mpr (by omega)⟩
theorem z_fl {p : Int32} (hp : zp p) : p - (p - p / 100 * 100) = nI (100 * (p.toNatClampNeg / 100)) := by
  obtain ⟨a, ha, rfl⟩ := nI_of2 (n := 12000) (M := 12000) rfl (Int32.not_lt.mpr hp.1) hp.2
  have e1 : nI a - nI a / 100 * 100 = nI (a % 100) := pk_rem (d := 100) (by omega) (by decide) (by decide)
  rw [e1, pk_sub (Nat.mod_le _ _), nI_clamp (by omega)]
  congr 1
  omega
theorem zv_neg {k : Nat} (hk : k ≤ 121) : nI (100 * k) - 100 < 0 ↔ k = 0 := by
  constructor
  · intro h
    rcases k with _ | k
    · rfl
    · have e : nI (100 * (k + 1)) - 100 = nI (100 * k) := by
        have := pk_sub (a := 100 * (k + 1)) (b := 100) (by omega)
        rw [show 100 * (k + 1) - 100 = 100 * k by omega] at this
        exact this
      rw [e] at h
      exact absurd h (nI_pos (by omega))
  · intro h
    subst h
    decide
theorem zv_s (k : Nat) : nI (100 * (k + 1)) - 100 = nI (100 * k) := by
  have := pk_sub (a := 100 * (k + 1)) (b := 100) (by omega)
  rw [show 100 * (k + 1) - 100 = 100 * k by omega] at this
  exact this
theorem z_dec (x : Int32) : x + Int32.ofInt (-100) = x - 100 := by
  rw [Int32.sub_eq_add_neg]; rfl
theorem zp_n {p : Int32} (hp : zp p) : p.toNatClampNeg ≤ 12000 := by
  obtain ⟨a, ha, rfl⟩ := nI_of2 (n := 12000) (M := 12000) rfl (Int32.not_lt.mpr hp.1) hp.2
  rw [nI_clamp (by omega)]; exact ha
theorem zw_lt {w : Int32} (h : zw w) : w < 4 := by
  obtain ⟨a, ha, rfl⟩ := nI_of2 (n := 3) (M := 3) rfl (Int32.not_lt.mpr h.1) h.2
  exact nI_lt (b := 4) (by omega) (by decide)
theorem zTow_1 {sp n due : Int32} (h : ¬ (due - n) * sp / 100 = 0) : n + (due - n) * sp / 100 = zTow sp n due := by
  unfold zTow
  rw [if_neg (fun q => h q.1)]
theorem zTow_2 {sp n due : Int32} (h : sp = 0) : n + (due - n) * sp / 100 = zTow sp n due := by
  unfold zTow
  rw [if_neg (fun q => q.2 h)]
theorem zTow_4 (m : Int32) : (if (-1) < (if 1 < m then 1 else m) then (if 1 < m then 1 else m) else (-1)) = (if 0 < m then 1 else if m < 0 then -1 else 0 : Int32) := by
  have e0 : (0 : Int32).toInt = 0 := rfl
  have e1 : (1 : Int32).toInt = 1 := rfl
  have em : (-1 : Int32).toInt = -1 := rfl
  by_cases h1 : 1 < m
  · rw [if_pos h1, if_pos (show (-1 : Int32) < 1 by decide), if_pos (show (0 : Int32) < m by rw [fa_lt] at h1 ⊢; omega)]
  · rw [if_neg h1]
    by_cases h3 : 0 < m
    · have h4 : m = 1 := by rw [fa_eq]; rw [fa_lt] at h1 h3; omega
      subst h4
      decide
    · rw [if_neg h3]
      by_cases h5 : m < 0
      · rw [if_pos h5, if_neg (show ¬ (-1 : Int32) < m by rw [fa_lt] at h5 ⊢; omega)]
      · have h4 : m = 0 := by rw [fa_eq]; rw [fa_lt] at h5 h3; omega
        subst h4
        decide
theorem zTow_3 {sp n due : Int32} (h : (due - n) * sp / 100 = 0) (h2 : ¬ sp = 0) : n + (if (-1) < (if 1 < (due - n) then 1 else (due - n)) then (if 1 < (due - n) then 1 else (due - n)) else (-1)) = zTow sp n due := by
  rw [zTow_4 (due - n)]
  have e : zTow sp n due = n + (if 0 < due - n then 1 else if due - n < 0 then -1 else 0) := congrArg (fun q => n + q) (if_pos ⟨h, h2⟩)
  rw [e]
theorem zW_ix {i ky : Nat} (hi : i < 12) (hk : ky < 12) : ((nI i - nI ky).toInt % 12).toNat = (i + 12 - ky) % 12 := by
  rw [pk_sub_toInt (by omega) (by omega)]
  omega
theorem zWn_0 {md ky i : Nat} {g : Nat → Int32} (h : zSt md ((i + 12 - ky) % 12) < 0) : zWn md ky g (i + 1) = zWn md ky g i := by
  show zWn md ky g i + (if _ then _ else _) = _
  rw [if_pos h, Int32.add_zero]
theorem zWn_1 {md ky i : Nat} {g : Nat → Int32} (h : ¬ zSt md ((i + 12 - ky) % 12) < 0) : zWn md ky g (i + 1) = zWn md ky g i + g i := by
  show zWn md ky g i + (if _ then _ else _) = _
  rw [if_neg h]
theorem zRcn_0 {c : C5} {k : Nat} (h : zStep c (nI (100 * k)) < 0) : zRcn c (k + 1) = zRcn c k := by
  show zRcn c k + (if _ then _ else _) = _
  rw [if_pos h, Int32.add_zero]
theorem zRcn_1 {c : C5} {k : Nat} (h : ¬ zStep c (nI (100 * k)) < 0) : zRcn c (k + 1) = zRcn c k + 1 := by
  show zRcn c k + (if _ then _ else _) = _
  rw [if_neg h]
def zCt (c : C5) : Nat → Nat
  | 0 => 0
  | k + 1 => zCt c k + (if zStep c (nI (100 * k)) < 0 then 0 else 1)
theorem zCt_le (c : C5) : ∀ k, zCt c k ≤ k := by
  intro k
  induction k with
  | zero => exact Nat.le_refl _
  | succ k ih =>
    show zCt c k + (if _ then _ else _) ≤ _
    split <;> omega
theorem zCt_mono (c : C5) (k : Nat) : ∀ m, zCt c k ≤ zCt c (k + m) := by
  intro m
  induction m with
  | zero => exact Nat.le_refl _
  | succ m ih =>
    show _ ≤ zCt c (k + m) + (if _ then _ else _)
    split <;> omega
theorem zRcn_ct (c : C5) : ∀ k, zRcn c k = nI (zCt c k) := by
  intro k
  induction k with
  | zero => rfl
  | succ k ih =>
    by_cases h : zStep c (nI (100 * k)) < 0
    · rw [zRcn_0 h, ih]
      show _ = nI (zCt c k + (if _ then _ else _))
      rw [if_pos h]; rfl
    · rw [zRcn_1 h, ih]
      show _ = nI (zCt c k + (if _ then _ else _))
      rw [if_neg h]; exact nI_1 _
theorem zRg_hit {c : C5} {num : Int32} {k : Nat} (hk : k < 121) (h : ¬ zStep c (nI (100 * k)) < 0) (hn : num = zRcn c k) : zRg c num = nI (100 * k) := by
  have key : ∀ m, k + 1 + m ≤ 121 → zRgn c num (k + 1 + m) = nI (100 * k) := by
    intro m
    induction m with
    | zero =>
      intro _
      show (if _ then _ else _) = _
      rw [if_pos ⟨h, hn⟩]
    | succ m ih =>
      intro hm
      have e : zRgn c num (k + 1 + (m + 1)) = zRgn c num (k + 1 + m) := by
        refine if_neg ?_
        rintro ⟨-, q⟩
        have q : num = zRcn c (k + 1 + m) := q
        rw [hn, zRcn_ct, zRcn_ct] at q
        have h1 := zCt_le c k
        have h2 := zCt_le c (k + 1 + m)
        have h3 := zCt_mono c (k + 1) m
        have h4 : zCt c (k + 1) = zCt c k + 1 := by
          show zCt c k + (if _ then _ else _) = _
          rw [if_neg h]
        have := (nI_eq (by omega) (by omega)).mp q
        omega
      rw [e]; exact ih (by omega)
  have := key (120 - k) (by omega)
  rw [show k + 1 + (120 - k) = 121 by omega] at this
  exact this
theorem zRgn_0 {c : C5} {num : Int32} {k : Nat} (h : ¬ (¬ zStep c (nI (100 * k)) < 0 ∧ num = zRcn c k)) (h2 : zRgn c num k = -1) : zRgn c num (k + 1) = -1 := by
  show (if _ then _ else _) = _
  rw [if_neg h]; exact h2
theorem zk_in {k : Int32} (h : 0 ≤ k ∧ k ≤ 11) : vp_in k 12 := by
  obtain ⟨a, ha, rfl⟩ := nI_of2 (n := 11) (M := 11) rfl (Int32.not_lt.mpr h.1) h.2
  exact vp_in_nI (by omega) (by decide)
theorem zk_lt {k : Int32} (h : 0 ≤ k ∧ k ≤ 11) : k < 12 := by
  obtain ⟨a, ha, rfl⟩ := nI_of2 (n := 11) (M := 11) rfl (Int32.not_lt.mpr h.1) h.2
  exact nI_lt (b := 12) (by omega) (by decide)
theorem zn_in {k n : Nat} (h : k ≤ n) (hn : n < 2 ^ 31) : 0 ≤ nI k ∧ nI k ≤ nI n := ⟨nI_pos' (by omega), (nI_leI (by omega) hn).mpr h⟩
