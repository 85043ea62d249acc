/-! the scale's rungs one after the other -/
abbrev zH (c : C5) (k : Nat) : Prop := ¬ zStep c (nI (100 * k)) = -1
theorem zStep_k {c : C5} {k : Nat} (hk : k ≤ 120) : zStep c (nI (100 * k)) = zSt c.2.1 ((k + 12 - c.1) % 12) := by
  unfold zStep
  have e1 : nI (100 * k) - nI (100 * k) / 100 * 100 = nI (100 * k % 100) := pk_rem (d := 100) (by omega) (by decide) (by decide)
  have e2 : nI (100 * k) - nI (100 * k) / 100 * 100 = 0 := (e1.trans (congrArg nI (Nat.mul_mod_right 100 k))).trans nI_0
  rw [if_pos ⟨nI_pos' (by omega), (nI_leI (b := 12000) (by omega) (by decide)).mpr (by omega), e2⟩, nI_clamp (by omega), Nat.mul_div_cancel_left k (by decide : 0 < 100)]
def zNn (md : Nat) : Int32 := if md = 7 then 12 else 7
theorem zSt_cons : ∀ md, md < 8 → ∀ r, r < 12 → zSt md r = -1 → ¬ zSt md ((r + 1) % 12) = -1 := by decide +kernel
theorem zSt_nx1 : ∀ md, md < 8 → ∀ r, r < 12 → ¬ zSt md r = -1 → ¬ zSt md ((r + 1) % 12) = -1 → zSt md ((r + 1) % 12) = (zSt md r + 1) - (zSt md r + 1) / zNn md * zNn md := by decide +kernel
theorem zSt_nx2 : ∀ md, md < 8 → ∀ r, r < 12 → ¬ zSt md r = -1 → zSt md ((r + 1) % 12) = -1 → zSt md ((r + 2) % 12) = (zSt md r + 1) - (zSt md r + 1) / zNn md * zNn md := by decide +kernel
theorem zSt_0 : ∀ md, md < 8 → zSt md 0 = 0 := by decide +kernel
def zMk : Nat → Nat
  | 0 => 2741
  | 1 => 1709
  | 2 => 1451
  | 3 => 2773
  | 4 => 1717
  | 5 => 1453
  | 6 => 1387
  | _ => 4095
theorem zMk_ok : ∀ md, md < 8 → ∀ r, r < 12 → (zSt md r = -1 ↔ zMk md / 2 ^ r % 2 = 0) := by decide +kernel
def zCk (md ky : Nat) : Nat → Nat
  | 0 => 0
  | k + 1 => zCk md ky k + zMk md / 2 ^ ((k + 12 - ky) % 12) % 2
theorem zCk_121 : ∀ md, md < 8 → ∀ ky, ky < 12 → (md = 7 → zCk md ky 121 = 121) ∧ (¬ md = 7 → zCk md ky 121 = 70 ∨ zCk md ky 121 = 71) := by decide +kernel
theorem zCt_1 {c : C5} (hc : okC c) {k : Nat} (h : zH c k) : zCt c (k + 1) = zCt c k + 1 := by
  show zCt c k + (if _ then _ else _) = _
  rw [if_neg (fun q => h ((zStep_neg hc _).mp q))]
theorem zCt_0 {c : C5} (hc : okC c) {k : Nat} (h : zStep c (nI (100 * k)) = -1) : zCt c (k + 1) = zCt c k := by
  show zCt c k + (if _ then _ else _) = _
  rw [if_pos ((zStep_neg hc _).mpr h), Nat.add_zero]
theorem zCt_k {c : C5} (hc : okC c) : ∀ k, k ≤ 121 → zCt c k = zCk c.2.1 c.1 k := by
  intro k
  induction k with
  | zero => exact fun _ => rfl
  | succ k ih =>
    intro hk
    have h1 := zMk_ok c.2.1 hc.2.1 ((k + 12 - c.1) % 12) (Nat.mod_lt _ (by decide))
    rw [← zStep_k (c := c) (k := k) (by omega)] at h1
    show _ = zCk c.2.1 c.1 k + zMk c.2.1 / 2 ^ ((k + 12 - c.1) % 12) % 2
    rw [← ih (by omega)]
    generalize zMk c.2.1 / 2 ^ ((k + 12 - c.1) % 12) = X at h1 ⊢
    by_cases q : zStep c (nI (100 * k)) = -1
    · rw [zCt_0 hc q, h1.mp q, Nat.add_zero]
    · have h3 : ¬ X % 2 = 0 := fun x => q (h1.mpr x)
      rw [zCt_1 hc q, show X % 2 = 1 by omega]
theorem zRc_n (c : C5) : zRc c = nI (zCt c 121) := zRcn_ct c 121
theorem zCt_121 {c : C5} (hc : okC c) : (c.2.1 = 7 → zCt c 121 = 121) ∧ (¬ c.2.1 = 7 → zCt c 121 = 70 ∨ zCt c 121 = 71) := by
  rw [zCt_k hc 121 (Nat.le_refl _)]
  exact zCk_121 _ hc.2.1 _ hc.1
theorem zCt_le2 (c : C5) {k n : Nat} (h : k ≤ n) : zCt c k ≤ zCt c n := by
  have := zCt_mono c k (n - k)
  rwa [show k + (n - k) = n by omega] at this
theorem zH_2 {c : C5} (hc : okC c) {k : Nat} (hk : k + 1 ≤ 120) (h : zStep c (nI (100 * k)) = -1) : zH c (k + 1) := by
  have h1 := hc.1
  show ¬ zStep c (nI (100 * (k + 1))) = -1
  rw [zStep_k (by omega)] at h
  rw [zStep_k hk, show (k + 1 + 12 - c.1) % 12 = ((k + 12 - c.1) % 12 + 1) % 12 by omega]
  exact zSt_cons _ hc.2.1 _ (Nat.mod_lt _ (by decide)) h
/-- the next rung -/
theorem zNx {c : C5} (hc : okC c) {b : Nat} (hb : b ≤ 121) (h : zCt c b < zCt c 121) : ∃ j, j ≤ 120 ∧ zH c j ∧ zCt c j = zCt c b ∧ (j = b ∨ (j = b + 1 ∧ zStep c (nI (100 * b)) = -1)) := by
  rcases Nat.lt_or_ge b 121 with q | q
  · by_cases q2 : zStep c (nI (100 * b)) = -1
    · have e := zCt_0 hc q2
      rcases Nat.lt_or_ge b 120 with q3 | q3
      · exact ⟨b + 1, by omega, zH_2 hc (by omega) q2, e, Or.inr ⟨rfl, q2⟩⟩
      · have hb2 : b = 120 := by omega
        subst hb2
        have e2 : zCt c 121 = zCt c 120 := e
        omega
    · exact ⟨b, by omega, q2, rfl, Or.inl rfl⟩
  · have hb2 : b = 121 := by omega
    subst hb2
    exact absurd h (Nat.lt_irrefl _)
theorem zH_st {c : C5} {k : Nat} (hk : k ≤ 120) (h : zH c k) : ¬ zSt c.2.1 ((k + 12 - c.1) % 12) = -1 := by
  rw [← zStep_k (c := c) (k := k) hk]
  exact h
theorem zNx_s {c : C5} (hc : okC c) {b j : Nat} (hj : j ≤ 120) (hb : zH c b) (hH : zH c j) (h : j = b + 1 ∨ (j = b + 2 ∧ zStep c (nI (100 * (b + 1))) = -1)) : zStep c (nI (100 * j)) = (zStep c (nI (100 * b)) + 1) - (zStep c (nI (100 * b)) + 1) / zNn c.2.1 * zNn c.2.1 := by
  have h1 := hc.1
  rcases h with rfl | ⟨rfl, h2⟩
  · have h3 := zH_st (c := c) (k := b) (by omega) hb
    have h4 := zH_st hj hH
    rw [show (b + 1 + 12 - c.1) % 12 = ((b + 12 - c.1) % 12 + 1) % 12 by omega] at h4
    rw [zStep_k hj, zStep_k (c := c) (k := b) (by omega), show (b + 1 + 12 - c.1) % 12 = ((b + 12 - c.1) % 12 + 1) % 12 by omega]
    exact zSt_nx1 _ hc.2.1 _ (Nat.mod_lt _ (by decide)) h3 h4
  · have h3 := zH_st (c := c) (k := b) (by omega) hb
    rw [zStep_k (c := c) (k := b + 1) (by omega), show (b + 1 + 12 - c.1) % 12 = ((b + 12 - c.1) % 12 + 1) % 12 by omega] at h2
    rw [zStep_k hj, zStep_k (c := c) (k := b) (by omega), show (b + 2 + 12 - c.1) % 12 = ((b + 12 - c.1) % 12 + 2) % 12 by omega]
    exact zSt_nx2 _ hc.2.1 _ (Nat.mod_lt _ (by decide)) h3 h2
theorem zKey {c : C5} (hc : okC c) : zH c c.1 := by
  show ¬ zStep c (nI (100 * c.1)) = -1
  have h1 := hc.1
  rw [zStep_k (by omega), show (c.1 + 12 - c.1) % 12 = 0 by omega, zSt_0 _ hc.2.1]
  decide
theorem zNear_s {c : C5} (hc : okC c) {a : Nat} (ha : a ≤ 12000) : ∃ j, j ≤ 120 ∧ zNear c (nI a) = nI (100 * j) ∧ zH c j ∧ ∀ i, i ≤ 120 → zH c i → zD a j < zD a i ∨ (zD a j = zD a i ∧ j ≤ i) := by
  have h9 := hc.1
  rcases zNearN_char hc ha 121 (Nat.le_refl _) with ⟨h1, h2⟩ | ⟨j, h1, h2, h3, h4⟩
  · exact absurd (h2 c.1 (by omega)) (zKey hc)
  · exact ⟨j, by omega, h2, h3, fun i hi hp => h4 i (by omega) hp⟩
theorem zNear_r {c : C5} (hc : okC c) {j : Nat} (hj : j ≤ 120) (h : zH c j) : zNear c (nI (100 * j)) = nI (100 * j) := by
  refine zNear_is hc (by omega) hj h (fun i hi hp => ?_)
  unfold zD
  by_cases q : i = j
  · subst q; exact Or.inr ⟨rfl, Nat.le_refl _⟩
  · refine Or.inl ?_
    split <;> split <;> omega
theorem zCt_ex {c : C5} (hc : okC c) {m : Nat} : ∀ n, m < zCt c n → ∃ j, j < n ∧ zH c j ∧ zCt c j = m := by
  intro n
  induction n with
  | zero => exact fun h => absurd h (Nat.not_lt_zero _)
  | succ n ih =>
    intro h
    by_cases q : zStep c (nI (100 * n)) = -1
    · rw [zCt_0 hc q] at h
      obtain ⟨j, h1, h2⟩ := ih h
      exact ⟨j, by omega, h2⟩
    · rw [zCt_1 hc q] at h
      rcases Nat.lt_or_ge m (zCt c n) with r | r
      · obtain ⟨j, h1, h2⟩ := ih r
        exact ⟨j, by omega, h2⟩
      · exact ⟨n, by omega, q, by omega⟩
theorem zRg_s {c : C5} (hc : okC c) {m j : Nat} (hj : j ≤ 120) (h : zH c j) (hm : zCt c j = m) : zRg c (nI m) = nI (100 * j) := zRg_hit (by omega) (fun q => h ((zStep_neg hc _).mp q)) (by rw [zRcn_ct, hm])
theorem zRg_ex {c : C5} (hc : okC c) {m : Nat} (hm : m < zCt c 121) : ∃ j, j ≤ 120 ∧ zH c j ∧ zCt c j = m ∧ zRg c (nI m) = nI (100 * j) := by
  obtain ⟨j, h1, h2, h3⟩ := zCt_ex hc 121 hm
  exact ⟨j, by omega, h2, h3, zRg_s hc (by omega) h2 h3⟩
theorem zCt_70 {c : C5} (hc : okC c) : 70 ≤ zCt c 121 ∧ zCt c 121 ≤ 121 := by
  have h := zCt_121 hc
  by_cases q : c.2.1 = 7
  · have := h.1 q; omega
  · have := h.2 q; omega
theorem zRg_p {c : C5} (hc : okC c) {m : Nat} (hm : m < 70) : ¬ zRg c (nI m) < 0 := by
  obtain ⟨j, h1, h2, h3, h4⟩ := zRg_ex hc (m := m) (by have := (zCt_70 hc).1; omega)
  rw [h4]
  exact nI_pos (by omega)
theorem zRg_0 {c : C5} (hc : okC c) : ∃ j, j ≤ 1 ∧ zRg c 0 = nI (100 * j) := by
  obtain ⟨j, h1, h2, h3, h4⟩ := zRg_ex hc (m := 0) (by have := (zCt_70 hc).1; omega)
  refine ⟨j, ?_, h4⟩
  refine Nat.not_lt.mp fun q => ?_
  by_cases q0 : zStep c (nI (100 * 0)) = -1
  · have e1 : zCt c (1 + 1) = zCt c 1 + 1 := zCt_1 hc (zH_2 hc (k := 0) (by decide) q0)
    have e2 := zCt_le2 c (show 1 + 1 ≤ j by omega)
    omega
  · have e1 : zCt c (0 + 1) = zCt c 0 + 1 := zCt_1 hc q0
    have e2 := zCt_le2 c (show 0 + 1 ≤ j by omega)
    omega
/-- no rung is left: the last one lies high -/
theorem zLast {c : C5} (hc : okC c) {b : Nat} (hb : b ≤ 121) (h : zCt c b = zCt c 121) : 120 ≤ b ∧ ∀ j, j ≤ 120 → zH c j → j < b := by
  have key : ∀ j, j ≤ 120 → zH c j → j < b := by
    intro j hj hH
    refine Nat.not_le.mp fun q => ?_
    have e1 := zCt_1 hc hH
    have e2 := zCt_le2 c q
    have e3 := zCt_le2 c (show j + 1 ≤ 121 by omega)
    omega
  refine ⟨Nat.not_lt.mp fun q => ?_, key⟩
  by_cases q0 : zStep c (nI (100 * 119)) = -1
  · have := key 120 (by omega) (zH_2 hc (k := 119) (by decide) q0)
    omega
  · have := key 119 (by omega) q0
    omega
theorem zDist_1 {a j : Nat} (ha : a ≤ 12000) (hj : j ≤ 120) (h : ¬ nI (100 * j) ≤ nI a) : nI (100 * j) - nI a = nI (zD a j) := by
  have h1 : ¬ 100 * j ≤ a := fun q => h ((nI_leI (by omega) (by omega)).mpr q)
  rw [pk_sub (by omega)]
  unfold zD
  rw [if_neg (by omega)]
theorem zDist_2 {a j : Nat} (ha : a ≤ 12000) (hj : j ≤ 120) (h : nI (100 * j) ≤ nI a) : nI a - nI (100 * j) = nI (zD a j) := by
  have h1 : 100 * j ≤ a := (nI_leI (by omega) (by omega)).mp h
  rw [pk_sub h1]
  unfold zD
  split
  · rfl
  · congr 1; omega
