theorem ck_rg_n {x : Int32} {b : Nat} (h : ck_rg 0 x b) (hb : b + 1 < 2 ^ 31) : ∃ m, m ≤ b ∧ x = nI m := by
  have h1 := h.1; have h2 := h.2
  rcases pk_ix x hb with h3 | h3 | ⟨j, hj, e⟩
  · have h4 := (fa_lt _ _).mp h3
    have h5 : ((0 : Int32)).toInt = 0 := rfl
    omega
  · have h4 := (fa_le _ _).mp h3
    rw [nI_toInt hb] at h4
    omega
  · exact ⟨j, by omega, e⟩
/-- a charge is small -/
theorem ck_chg_rg {m p u l f : Nat} (hm : m ≤ 10000) (hp : p ≤ 10000) (hu : 1 ≤ u) (hu2 : u ≤ 60) (hl : l ≤ 120) (hf : f ≤ 1000) : ∃ z, z ≤ 2000000 ∧ ck_chg (nI m) (nI p) (nI u) (nI l) (nI f) = nI z := by
  have e1 : ck_up (nI m) (nI u) = nI ((m + u - 1) / u) := by
    have h1 : (1 : Int32) ≤ nI u := by
      rw [fa_le, nI_toInt (by omega)]
      show (1 : Int) ≤ u
      omega
    rw [ck_up1 h1, nI_add, ck_pred (by omega), pk_div (by omega) (by omega) (by omega)]
  have hq : (m + u - 1) / u * u ≤ 10059 := Nat.le_trans (Nat.div_mul_le_self _ _) (by omega)
  obtain ⟨c, hc, e2⟩ : ∃ c, c ≤ 10059 ∧ ck_max (nI ((m + u - 1) / u) * nI u) (nI l) = nI c := by
    unfold ck_max
    split
    · exact ⟨l, by omega, rfl⟩
    · exact ⟨_, hq, pk_mul _ _⟩
  have hpc : p * c ≤ 10000 * 10059 := Nat.mul_le_mul hp hc
  refine ⟨f + (p * c + 59) / 60, by omega, ?_⟩
  unfold ck_chg
  rw [e1, e2, pk_mul, ck_up60, show (59 : Int32) = nI 59 from rfl, nI_add, show (60 : Int32) = nI 60 from rfl, pk_div (by omega) (by decide) (by decide), nI_add]
theorem ck_I.now {V : Nat → Nat → Int32} {nc nr : Nat} (hI : ck_I V nc nr) {k : Nat} (hk : k < nc) : ck_rg (-1) (ck_now V nr k) 2000000 := by
  obtain ⟨ob, hob⟩ : ∃ ob, ck_best V (V 0 k) (V 1 k / 1000) nr = ob := ⟨_, rfl⟩
  unfold ck_now
  rw [hob]
  cases ob with
  | none => exact (show ck_rg (-1) (-1 : Int32) 2000000 from ⟨by decide, by decide⟩)
  | some b =>
    have hb := ck_best_lt hob
    obtain ⟨m, hm, em⟩ := ck_rg_n (b := 10000) (hI.len k hk) (by decide)
    obtain ⟨p, hp, ep⟩ := ck_rg_n (b := 10000) (hI.rpr b hb) (by decide)
    obtain ⟨u, hu, eu⟩ := ck_rg_n (b := 60) ⟨by have := (hI.rst b hb).1; omega, (hI.rst b hb).2⟩ (by decide)
    obtain ⟨l, hl, el⟩ := ck_rg_n (b := 120) (hI.rl b hb) (by decide)
    obtain ⟨f, hf, ef⟩ := ck_rg_n (b := 1000) (hI.rf b hb) (by decide)
    have hu1 : 1 ≤ u := by
      have h := (hI.rst b hb).1
      rw [eu, nI_toInt (by omega)] at h
      omega
    obtain ⟨z, hz, e⟩ := ck_chg_rg hm hp hu1 hu hl hf
    show ck_rg (-1) (ck_chg (V 4 k) (V 9 b) (V 10 b) (V 11 b) (V 12 b)) 2000000
    rw [em, ep, eu, el, ef, e]
    refine ⟨?_, ?_⟩ <;> rw [nI_toInt (by omega)] <;> omega
