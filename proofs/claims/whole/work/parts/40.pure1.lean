/-- the rank of a carrier: whoever goes before has a smaller one -/
theorem ck_cb_lt {P : Nat → Int32} {i k : Nat} {p : Int32} (hn : ¬ P k = -1) (hl : P k < p ∨ (P k = p ∧ k < i)) : ∀ n, ck_cb P k (P k) n + (if k < n then 1 else 0) ≤ ck_cb P i p n
  | 0 => by simp [ck_cb]
  | n + 1 => by
    have ih := ck_cb_lt hn hl n
    have hl2 : (P k).toInt < p.toInt ∨ ((P k).toInt = p.toInt ∧ k < i) := hl.imp (fun h => (fa_lt _ _).mp h) (fun h => ⟨(fa_eq _ _).mp h.1, h.2⟩)
    by_cases e : n = k
    · subst e
      have h1 : ¬ (¬ P n = -1 ∧ (P n < P n ∨ (P n = P n ∧ n < n))) := fun z => z.2.elim (fun z => Int32.lt_irrefl z) (fun z => Nat.lt_irrefl _ z.2)
      have h2 : ¬ P n = -1 ∧ (P n < p ∨ (P n = p ∧ n < i)) := ⟨hn, hl⟩
      rw [ck_cb_no h1, ck_cb_yes h2, if_pos (Nat.lt_succ_self n)]
      rw [if_neg (Nat.lt_irrefl n)] at ih
      omega
    · have h0 : (if k < n + 1 then 1 else 0) = (if k < n then 1 else 0) := by
        by_cases c : k < n
        · rw [if_pos c, if_pos (by omega)]
        · rw [if_neg c, if_neg (by omega)]
      have hAB : (¬ P n = -1 ∧ (P n < P k ∨ (P n = P k ∧ n < k))) → (¬ P n = -1 ∧ (P n < p ∨ (P n = p ∧ n < i))) := fun z => by
        refine ⟨z.1, ?_⟩
        have z2 : (P n).toInt < (P k).toInt ∨ ((P n).toInt = (P k).toInt ∧ n < k) := z.2.imp (fun h => (fa_lt _ _).mp h) (fun h => ⟨(fa_eq _ _).mp h.1, h.2⟩)
        have z3 : (P n).toInt < p.toInt ∨ ((P n).toInt = p.toInt ∧ n < i) := by omega
        exact z3.imp (fun h => (fa_lt _ _).mpr h) (fun h => ⟨(fa_eq _ _).mpr h.1, h.2⟩)
      rw [h0]
      generalize (if k < n then 1 else 0) = z at ih ⊢
      by_cases c1 : ¬ P n = -1 ∧ (P n < P k ∨ (P n = P k ∧ n < k))
      · rw [ck_cb_yes c1, ck_cb_yes (hAB c1)]; omega
      · rw [ck_cb_no c1]
        by_cases c2 : ¬ P n = -1 ∧ (P n < p ∨ (P n = p ∧ n < i))
        · rw [ck_cb_yes c2]; omega
        · rw [ck_cb_no c2]; omega
theorem ck_cb_le (P : Nat → Int32) (i : Nat) (p : Int32) : ∀ n, ck_cb P i p n ≤ n
  | 0 => Nat.le_refl _
  | n + 1 => by
    have := ck_cb_le P i p n
    simp only [ck_cb]; split <;> omega
/-- two carriers of one rank are one carrier -/
theorem ck_rank1 {P : Nat → Int32} {i k : Nat} (hi : i < 4) (hk : k < 4) (h1 : ¬ P i = -1) (h2 : ¬ P k = -1) (e : nI (ck_cb P i (P i) 4) = nI (ck_cb P k (P k) 4)) : i = k := by
  have e2 : ck_cb P i (P i) 4 = ck_cb P k (P k) 4 := (nI_eq (by have := ck_cb_le P i (P i) 4; omega) (by have := ck_cb_le P k (P k) 4; omega)).mp e
  rcases Int.lt_trichotomy (P i).toInt (P k).toInt with h | h | h
  · have := ck_cb_lt (i := k) h1 (Or.inl ((fa_lt _ _).mpr h)) 4
    rw [if_pos hi] at this; omega
  · have hp : P i = P k := (fa_eq _ _).mpr h
    rcases Nat.lt_trichotomy i k with c | c | c
    · have := ck_cb_lt (i := k) h1 (Or.inr ⟨hp, c⟩) 4
      rw [if_pos hi] at this; omega
    · exact c
    · have := ck_cb_lt (i := i) h2 (Or.inr ⟨hp.symm, c⟩) 4
      rw [if_pos hk] at this; omega
  · have := ck_cb_lt (i := i) h2 (Or.inl ((fa_lt _ _).mpr h)) 4
    rw [if_pos hk] at this; omega
/-- the first and the last carrier of a rank are the same -/
theorem ck_rk_fd (P : Nat → Int32) (lim rank : Int32) : ck_rk P lim rank 0 4 = ck_fd P lim rank 4 := by
  simp only [ck_rk, ck_fd]
  by_cases c0 : ¬ P 0 = -1 ∧ P 0 ≤ lim ∧ nI (ck_cb P 0 (P 0) 4) = rank <;> by_cases c1 : ¬ P 1 = -1 ∧ P 1 ≤ lim ∧ nI (ck_cb P 1 (P 1) 4) = rank <;> by_cases c2 : ¬ P 2 = -1 ∧ P 2 ≤ lim ∧ nI (ck_cb P 2 (P 2) 4) = rank <;> by_cases c3 : ¬ P 3 = -1 ∧ P 3 ≤ lim ∧ nI (ck_cb P 3 (P 3) 4) = rank
  all_goals first
    | (exact absurd (ck_rank1 (by decide) (by decide) c0.1 c1.1 (c0.2.2.trans c1.2.2.symm)) (by decide))
    | (exact absurd (ck_rank1 (by decide) (by decide) c0.1 c2.1 (c0.2.2.trans c2.2.2.symm)) (by decide))
    | (exact absurd (ck_rank1 (by decide) (by decide) c0.1 c3.1 (c0.2.2.trans c3.2.2.symm)) (by decide))
    | (exact absurd (ck_rank1 (by decide) (by decide) c1.1 c2.1 (c1.2.2.trans c2.2.2.symm)) (by decide))
    | (exact absurd (ck_rank1 (by decide) (by decide) c1.1 c3.1 (c1.2.2.trans c3.2.2.symm)) (by decide))
    | (exact absurd (ck_rank1 (by decide) (by decide) c2.1 c3.1 (c2.2.2.trans c3.2.2.symm)) (by decide))
    | simp [c0, c1, c2, c3]
/-- the differences stay small -/
theorem ck_df_rg {V : Nat → Nat → Int32} {nc nr : Nat} (hI : ck_I V nc nr) (hn : nc ≤ 60) (x : Int32) : ∀ n, n ≤ nc → -(3000000 * (n : Int)) ≤ (ck_df V x n).toInt ∧ (ck_df V x n).toInt ≤ 3000000 * (n : Int)
  | 0, _ => by simp [ck_df]
  | n + 1, h => by
    have ih := ck_df_rg hI hn x n (by omega)
    have a := hI.cl n (by omega)
    have b := ck_bk_rg (hI.bk n (by omega))
    have a1 := a.1; have a2 := a.2; have b1 := b.1; have b2 := b.2
    have e1 : (V 6 n - ck_bk (V 5 n)).toInt = (V 6 n).toInt - (ck_bk (V 5 n)).toInt := fb_subI (by omega) (by omega)
    have e2 : ((n + 1 : Nat) : Int) = (n : Int) + 1 := by omega
    rw [e2]
    simp only [ck_df]
    split
    · rw [fb_addI (by rw [e1]; omega) (by rw [e1]; omega), e1]; omega
    · omega
theorem ck_I.dfR {V : Nat → Nat → Int32} {nc nr : Nat} (hI : ck_I V nc nr) (hn : nc ≤ 60) : ck_dfR V nc := fun x => by
  have h := ck_df_rg hI hn x nc (Nat.le_refl _)
  exact ⟨by omega, by omega⟩
