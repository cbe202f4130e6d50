/-- how many of a row's first n are not free -/
def ck_ct (f : Nat → Int32) : Nat → Nat
  | 0 => 0
  | k + 1 => if f k = 0 then ck_ct f k else ck_ct f k + 1
theorem ck_ct_0 {f : Nat → Int32} {k : Nat} (h : f k = 0) : ck_ct f (k + 1) = ck_ct f k := by simp only [ck_ct]; rw [if_pos h]
theorem ck_ct_1 {f : Nat → Int32} {k : Nat} (h : ¬ f k = 0) : ck_ct f (k + 1) = ck_ct f k + 1 := by simp only [ck_ct]; rw [if_neg h]
theorem ck_ct_le (f : Nat → Int32) : ∀ n, ck_ct f n ≤ n
  | 0 => Nat.le_refl _
  | n + 1 => by
    have ih := ck_ct_le f n
    by_cases h : f n = 0
    · rw [ck_ct_0 h]; omega
    · rw [ck_ct_1 h]; omega
theorem ck_ct_full {f : Nat → Int32} : ∀ n, (∀ j, j < n → ¬ f j = 0) → ck_ct f n = n
  | 0, _ => rfl
  | n + 1, h => by rw [ck_ct_1 (h n (Nat.lt_succ_self n)), ck_ct_full n (fun j hj => h j (by omega))]
theorem ck_ct_free {f : Nat → Int32} {j : Nat} (hj : f j = 0) : ∀ n, j < n → ck_ct f n < n
  | 0, h => absurd h (Nat.not_lt_zero _)
  | n + 1, h => by
    by_cases e : f n = 0
    · rw [ck_ct_0 e]; have := ck_ct_le f n; omega
    · rw [ck_ct_1 e]
      have h2 : j ≠ n := fun z => e (z ▸ hj)
      have := ck_ct_free hj n (by omega)
      omega
theorem ck_ct_eq {f f1 : Nat → Int32} : ∀ n, (∀ j, j < n → (f1 j = 0 ↔ f j = 0)) → ck_ct f1 n = ck_ct f n
  | 0, _ => rfl
  | n + 1, h => by
    have ih := ck_ct_eq n (fun j hj => h j (by omega))
    by_cases e : f n = 0
    · rw [ck_ct_0 e, ck_ct_0 ((h n (Nat.lt_succ_self n)).mpr e), ih]
    · rw [ck_ct_1 e, ck_ct_1 (fun z => e ((h n (Nat.lt_succ_self n)).mp z)), ih]
/-- one place taken -/
theorem ck_ct_put {f : Nat → Int32} {b : Nat} {x : Int32} (hb : f b = 0) (hx : ¬ x = 0) : ∀ n, b < n → ck_ct (upd f b x) n = ck_ct f n + 1
  | 0, h => absurd h (Nat.not_lt_zero _)
  | n + 1, h => by
    by_cases e : b = n
    · subst e
      rw [ck_ct_0 hb, ck_ct_1 (by rw [pk_us]; exact hx)]
      rw [ck_ct_eq b (fun j hj => by rw [pk_un (by omega)])]
    · have ih := ck_ct_put hb hx n (by omega)
      have e2 : upd f b x n = f n := pk_un (by omega)
      by_cases c : f n = 0
      · rw [ck_ct_0 c, ck_ct_0 (e2.trans c), ih]
      · rw [ck_ct_1 c, ck_ct_1 (fun z => c (e2.symm.trans z)), ih]
/-- one place freed -/
theorem ck_ct_del {f : Nat → Int32} {b : Nat} (hb : ¬ f b = 0) : ∀ n, b < n → ck_ct (upd f b 0) n + 1 = ck_ct f n
  | 0, h => absurd h (Nat.not_lt_zero _)
  | n + 1, h => by
    by_cases e : b = n
    · subst e
      rw [ck_ct_1 hb, ck_ct_0 pk_us]
      rw [ck_ct_eq b (fun j hj => by rw [pk_un (by omega)])]
    · have ih := ck_ct_del hb n (by omega)
      have e2 : upd f b 0 n = f n := pk_un (by omega)
      by_cases c : f n = 0
      · rw [ck_ct_0 c, ck_ct_0 (e2.trans c), ih]
      · rw [ck_ct_1 c, ck_ct_1 (fun z => c (e2.symm.trans z)), ← ih]
/-- a carrier's rows in the class (f, h) and in the reference (g, w, m of them) tell the same offers -/
def ck_oR (f h g w : Nat → Int32) (m : Nat) : Prop :=
  ck_ct f 10 = m ∧
  (∀ j k, j < 10 → k < 10 → ¬ f j = 0 → f j = f k → j = k) ∧
  (∀ j k, j < m → k < m → g j = g k → j = k) ∧
  (∀ k, k < m → ck_rg 1 (g k) 99999 ∧ ck_rg 0 (w k) 10000) ∧
  (∀ j, j < 10 → ¬ f j = 0 → ∃ k, k < m ∧ g k = f j ∧ w k = h j) ∧
  (∀ k, k < m → ∃ j, j < 10 ∧ f j = g k ∧ h j = w k)
theorem ck_rg1_ne {x : Int32} {b : Int} (h : ck_rg 1 x b) : ¬ x = 0 := fun z => by
  have h1 := h.1
  rw [z] at h1
  have : ((0 : Int32)).toInt = 0 := rfl
  omega
theorem ck_oR.m {f h g w : Nat → Int32} {m : Nat} (o : ck_oR f h g w m) : m ≤ 10 := by rw [← o.1]; exact ck_ct_le f 10
theorem ck_oR.congr {f h g w f1 h1 g1 w1 : Nat → Int32} {m : Nat} (o : ck_oR f h g w m) (e1 : ∀ j, j < 10 → f1 j = f j) (e2 : ∀ j, j < 10 → ¬ f j = 0 → h1 j = h j) (e3 : ∀ k, k < m → g1 k = g k ∧ w1 k = w k) : ck_oR f1 h1 g1 w1 m := by
  obtain ⟨o1, o2, o3, o4, o5, o6⟩ := o
  refine ⟨(ck_ct_eq 10 (fun j hj => by rw [e1 j hj])).trans o1, fun j k hj hk h0 he => ?_, fun j k hj hk he => ?_, fun k hk => ?_, fun j hj h0 => ?_, fun k hk => ?_⟩
  · rw [e1 j hj] at h0 he; rw [e1 k hk] at he; exact o2 j k hj hk h0 he
  · rw [(e3 j hj).1, (e3 k hk).1] at he; exact o3 j k hj hk he
  · rw [(e3 k hk).1, (e3 k hk).2]; exact o4 k hk
  · rw [e1 j hj] at h0 ⊢
    obtain ⟨k, h1, h2, h3⟩ := o5 j hj h0
    exact ⟨k, h1, (e3 k h1).1.trans h2, (e3 k h1).2.trans (h3.trans (e2 j hj h0).symm)⟩
  · obtain ⟨j, h1, h2, h3⟩ := o6 k hk
    have h0 : ¬ f j = 0 := by rw [h2]; exact ck_rg1_ne (o4 k hk).1
    exact ⟨j, h1, (e1 j h1).trans (h2.trans (e3 k hk).1.symm), (e2 j h1 h0).trans (h3.trans (e3 k hk).2.symm)⟩
/-- a new offer -/
theorem ck_oR.add {f h g w : Nat → Int32} {m b : Nat} (o : ck_oR f h g w m) (hb : b < 10) (h0 : f b = 0) {x z : Int32} (hx : ck_rg 1 x 99999) (hz : ck_rg 0 z 10000) (hn : ∀ k, k < m → ¬ g k = x) : ck_oR (upd f b x) (upd h b z) (upd g m x) (upd w m z) (m + 1) := by
  obtain ⟨o1, o2, o3, o4, o5, o6⟩ := o
  have hx0 := ck_rg1_ne hx
  have hnf : ∀ j, j < 10 → ¬ f j = x := fun j hj e => by
    obtain ⟨k, h1, h2, -⟩ := o5 j hj (by rw [e]; exact hx0)
    exact hn k h1 (h2.trans e)
  refine ⟨(ck_ct_put h0 hx0 10 hb).trans (by rw [o1]), fun j k hj hk hj0 he => ?_, fun j k hj hk he => ?_, fun k hk => ?_, fun j hj hj0 => ?_, fun k hk => ?_⟩
  · by_cases c1 : j = b
    · by_cases c2 : k = b
      · omega
      · rw [c1, pk_us, pk_un c2] at he; exact absurd he.symm (hnf k hk)
    · rw [pk_un c1] at he hj0
      by_cases c2 : k = b
      · rw [c2, pk_us] at he; exact absurd he (hnf j hj)
      · rw [pk_un c2] at he; exact o2 j k hj hk hj0 he
  · by_cases c1 : j = m
    · by_cases c2 : k = m
      · omega
      · rw [c1, pk_us, pk_un c2] at he; exact absurd he.symm (hn k (by omega))
    · rw [pk_un c1] at he
      by_cases c2 : k = m
      · rw [c2, pk_us] at he; exact absurd he (hn j (by omega))
      · rw [pk_un c2] at he; exact o3 j k (by omega) (by omega) he
  · by_cases c : k = m
    · rw [c, pk_us, pk_us]; exact ⟨hx, hz⟩
    · rw [pk_un c, pk_un c]; exact o4 k (by omega)
  · by_cases c : j = b
    · rw [c, pk_us, pk_us]; exact ⟨m, by omega, pk_us, pk_us⟩
    · rw [pk_un c] at hj0
      obtain ⟨k, h1, h2, h3⟩ := o5 j hj hj0
      exact ⟨k, by omega, by rw [pk_un (by omega), pk_un c, h2], by rw [pk_un (by omega), pk_un c, h3]⟩
  · by_cases c : k = m
    · rw [c, pk_us, pk_us]; exact ⟨b, hb, pk_us, pk_us⟩
    · obtain ⟨j, h1, h2, h3⟩ := o6 k (by omega)
      have c2 : j ≠ b := fun z => by rw [z, h0] at h2; exact ck_rg1_ne (o4 k (by omega)).1 h2.symm
      exact ⟨j, h1, by rw [pk_un c, pk_un c2, h2], by rw [pk_un c, pk_un c2, h3]⟩
/-- another price -/
theorem ck_oR.set {f h g w : Nat → Int32} {m b b1 : Nat} (o : ck_oR f h g w m) (hb : b < 10) (hb1 : b1 < m) {x z : Int32} (hf : f b = x) (hg : g b1 = x) (hz : ck_rg 0 z 10000) : ck_oR (upd f b x) (upd h b z) (upd g b1 x) (upd w b1 z) m := by
  obtain ⟨o1, o2, o3, o4, o5, o6⟩ := o
  have ef : upd f b x = f := by
    funext j
    by_cases c : j = b
    · rw [c, pk_us, hf]
    · rw [pk_un c]
  have eg : upd g b1 x = g := by
    funext j
    by_cases c : j = b1
    · rw [c, pk_us, hg]
    · rw [pk_un c]
  have hx0 : ¬ f b = 0 := by rw [hf, ← hg]; exact ck_rg1_ne (o4 b1 hb1).1
  rw [ef, eg]
  refine ⟨o1, o2, o3, fun k hk => ?_, fun j hj hj0 => ?_, fun k hk => ?_⟩
  · by_cases c : k = b1
    · rw [c, pk_us]; exact ⟨(o4 b1 hb1).1, hz⟩
    · rw [pk_un c]; exact o4 k hk
  · by_cases c : j = b
    · rw [c, pk_us]; exact ⟨b1, hb1, hg.trans hf.symm, pk_us⟩
    · obtain ⟨k, h1, h2, h3⟩ := o5 j hj hj0
      have c2 : k ≠ b1 := fun z9 => by
        rw [z9, hg, ← hf] at h2
        exact c (o2 b j hb hj hx0 h2).symm
      exact ⟨k, h1, h2, by rw [pk_un c2, pk_un c, h3]⟩
  · by_cases c : k = b1
    · rw [c, pk_us]; exact ⟨b, hb, hf.trans hg.symm, pk_us⟩
    · obtain ⟨j, h1, h2, h3⟩ := o6 k hk
      have c2 : j ≠ b := fun z9 => by
        rw [z9, hf, ← hg] at h2
        exact c (o3 b1 k hb1 hk h2).symm
      exact ⟨j, h1, h2, by rw [pk_un c2, pk_un c, h3]⟩
/-- an offer taken away: the reference's last one comes to its place -/
theorem ck_oR.del {f h g w : Nat → Int32} {m b b1 : Nat} (o : ck_oR f h g w m) (hb : b < 10) (hb1 : b1 < m) (z : Int32) (hfg : f b = g b1) : ck_oR (upd f b 0) (upd h b z) (upd g b1 (g (m - 1))) (upd w b1 (w (m - 1))) (m - 1) := by
  obtain ⟨o1, o2, o3, o4, o5, o6⟩ := o
  have hb0 : ¬ f b = 0 := by rw [hfg]; exact ck_rg1_ne (o4 b1 hb1).1
  have hl : m - 1 < m := by omega
  have key : ∀ k, k < m - 1 → ∃ k2, k2 < m ∧ k2 ≠ b1 ∧ upd g b1 (g (m - 1)) k = g k2 ∧ upd w b1 (w (m - 1)) k = w k2 ∧ (k2 = k ∨ (k = b1 ∧ k2 = m - 1)) := fun k hk => by
    by_cases c : k = b1
    · rw [c, pk_us, pk_us]; exact ⟨m - 1, hl, by omega, rfl, rfl, Or.inr ⟨rfl, rfl⟩⟩
    · rw [pk_un c, pk_un c]; exact ⟨k, by omega, c, rfl, rfl, Or.inl rfl⟩
  refine ⟨by have := ck_ct_del hb0 10 hb; omega, fun j k hj hk hj0 he => ?_, fun j k hj hk he => ?_, fun k hk => ?_, fun j hj hj0 => ?_, fun k hk => ?_⟩
  · by_cases c1 : j = b
    · rw [c1, pk_us] at hj0; exact absurd rfl hj0
    · rw [pk_un c1] at hj0 he
      by_cases c2 : k = b
      · rw [c2, pk_us] at he; exact absurd he hj0
      · rw [pk_un c2] at he; exact o2 j k hj hk hj0 he
  · obtain ⟨j2, a1, a2, a3, -, a5⟩ := key j hj
    obtain ⟨k2, b1', b2, b3, -, b5⟩ := key k hk
    rw [a3, b3] at he
    have := o3 j2 k2 a1 b1' he
    omega
  · obtain ⟨k2, a1, -, a3, a4, -⟩ := key k hk
    rw [a3, a4]; exact o4 k2 a1
  · by_cases c1 : j = b
    · rw [c1, pk_us] at hj0; exact absurd rfl hj0
    · rw [pk_un c1] at hj0 ⊢
      rw [pk_un c1]
      obtain ⟨k, h1, h2, h3⟩ := o5 j hj hj0
      have c2 : k ≠ b1 := fun z9 => by
        rw [z9, ← hfg] at h2
        exact c1 (o2 b j hb hj hb0 h2).symm
      by_cases c3 : k = m - 1
      · exact ⟨b1, by omega, by rw [pk_us, ← c3, h2], by rw [pk_us, ← c3, h3]⟩
      · exact ⟨k, by omega, by rw [pk_un c2, h2], by rw [pk_un c2, h3]⟩
  · obtain ⟨k2, a1, a2, a3, a4, -⟩ := key k hk
    obtain ⟨j, h1, h2, h3⟩ := o6 k2 a1
    have c1 : j ≠ b := fun z9 => by
      rw [z9, hfg] at h2
      exact a2 (o3 b1 k2 hb1 a1 h2).symm
    exact ⟨j, h1, by rw [a3, pk_un c1, h2], by rw [a4, pk_un c1, h3]⟩
theorem ck_pf_max (f h : Nat → Int32) (x : Int32) : ∀ n, (ck_pf f h x n = (0, -1) ∧ ∀ i, i < n → ck_fit (f i) x = true → (f i).toInt ≤ 0) ∨ (∃ j, j < n ∧ ck_pf f h x n = (f j, h j) ∧ 0 < (f j).toInt ∧ ck_fit (f j) x = true ∧ ∀ i, i < n → ck_fit (f i) x = true → (f i).toInt ≤ (f j).toInt)
  | 0 => Or.inl ⟨rfl, fun i hi => absurd hi (Nat.not_lt_zero _)⟩
  | n + 1 => by
    have z0 : ((0 : Int32)).toInt = 0 := rfl
    have hstep : ck_pf f h x (n + 1) = if (ck_pf f h x n).1 < f n ∧ ck_fit (f n) x = true then (f n, h n) else ck_pf f h x n := rfl
    rcases ck_pf_max f h x n with ⟨e, a⟩ | ⟨j, hj, e, a1, a2, a3⟩
    · rw [hstep, e]
      by_cases c : ((0, -1) : Int32 × Int32).1 < f n ∧ ck_fit (f n) x = true
      · rw [if_pos c]
        have c1 := (fa_lt _ _).mp c.1
        have c2 : 0 < (f n).toInt := by rw [← z0]; exact c1
        refine Or.inr ⟨n, Nat.lt_succ_self n, rfl, c2, c.2, fun i hi hf => ?_⟩
        by_cases d : i = n
        · rw [d]; exact Int.le_refl _
        · have := a i (by omega) hf; omega
      · rw [if_neg c]
        refine Or.inl ⟨rfl, fun i hi hf => ?_⟩
        by_cases d : i = n
        · subst d
          have c1 : ¬ ((0 : Int32) < f i) := fun q => c ⟨q, hf⟩
          rw [fa_lt, z0] at c1
          omega
        · exact a i (by omega) hf
    · rw [hstep, e]
      by_cases c : ((f j, h j) : Int32 × Int32).1 < f n ∧ ck_fit (f n) x = true
      · rw [if_pos c]
        have c1 : (f j).toInt < (f n).toInt := (fa_lt _ _).mp c.1
        refine Or.inr ⟨n, Nat.lt_succ_self n, rfl, by omega, c.2, fun i hi hf => ?_⟩
        by_cases d : i = n
        · rw [d]; exact Int.le_refl _
        · have := a3 i (by omega) hf; omega
      · rw [if_neg c]
        refine Or.inr ⟨j, by omega, rfl, a1, a2, fun i hi hf => ?_⟩
        by_cases d : i = n
        · subst d
          have c1 : ¬ (f j < f i) := fun q => c ⟨q, hf⟩
          rw [fa_lt] at c1
          omega
        · exact a3 i (by omega) hf
theorem ck_of_max (g : Nat → Int32) (x : Int32) : ∀ n, (ck_of g x n = none ∧ ∀ i, i < n → ¬ ck_fit (g i) x = true) ∨ (∃ b, b < n ∧ ck_of g x n = some b ∧ ck_fit (g b) x = true ∧ ∀ i, i < n → ck_fit (g i) x = true → (g i).toInt ≤ (g b).toInt)
  | 0 => Or.inl ⟨rfl, fun i hi => absurd hi (Nat.not_lt_zero _)⟩
  | n + 1 => by
    have hstep : ck_of g x (n + 1) = if ck_fit (g n) x = true ∧ ck_ofc g n (ck_of g x n) = true then some n else ck_of g x n := rfl
    rcases ck_of_max g x n with ⟨e, a⟩ | ⟨b, hb, e, a1, a2⟩
    · rw [hstep, e]
      by_cases c : ck_fit (g n) x = true ∧ ck_ofc g n none = true
      · rw [if_pos c]
        refine Or.inr ⟨n, Nat.lt_succ_self n, rfl, c.1, fun i hi hf => ?_⟩
        by_cases d : i = n
        · rw [d]; exact Int.le_refl _
        · exact absurd hf (a i (by omega))
      · rw [if_neg c]
        refine Or.inl ⟨rfl, fun i hi hf => ?_⟩
        by_cases d : i = n
        · subst d; exact c ⟨hf, rfl⟩
        · exact a i (by omega) hf
    · rw [hstep, e]
      by_cases c : ck_fit (g n) x = true ∧ ck_ofc g n (some b) = true
      · rw [if_pos c]
        have c1 : (g b).toInt < (g n).toInt := (fa_lt _ _).mp (of_decide_eq_true c.2)
        refine Or.inr ⟨n, Nat.lt_succ_self n, rfl, c.1, fun i hi hf => ?_⟩
        by_cases d : i = n
        · rw [d]; exact Int.le_refl _
        · have := a2 i (by omega) hf; omega
      · rw [if_neg c]
        refine Or.inr ⟨b, by omega, rfl, a1, fun i hi hf => ?_⟩
        by_cases d : i = n
        · subst d
          have c1 : ¬ (g b < g i) := fun q => c ⟨hf, decide_eq_true q⟩
          rw [fa_lt] at c1
          omega
        · exact a2 i (by omega) hf
/-- the price for the longest prefix: the class's and the reference's -/
theorem ck_oR.price {f h g w : Nat → Int32} {m : Nat} (o : ck_oR f h g w m) (x : Int32) : (ck_pf f h x 10).2 = (match ck_of g x m with | none => -1 | some b => w b) := by
  obtain ⟨o1, o2, o3, o4, o5, o6⟩ := o
  rcases ck_pf_max f h x 10 with ⟨e, a⟩ | ⟨j, hj, e, a1, a2, a3⟩ <;> rcases ck_of_max g x m with ⟨e2, c⟩ | ⟨b, hb, e2, c1, c2⟩
  · rw [e, e2]
  · exfalso
    obtain ⟨j, h1, h2, h3⟩ := o6 b hb
    have h4 := a j h1 (by rw [h2]; exact c1)
    have h5 := (o4 b hb).1.1
    rw [h2] at h4
    omega
  · exfalso
    obtain ⟨k, h1, h2, h3⟩ := o5 j hj (fun z => by rw [z] at a1; exact absurd a1 (by decide))
    exact c k h1 (by rw [h2]; exact a2)
  · rw [e, e2]
    obtain ⟨k, h1, h2, h3⟩ := o5 j hj (fun z => by rw [z] at a1; exact absurd a1 (by decide))
    have h4 := c2 k h1 (by rw [h2]; exact a2)
    obtain ⟨i, h5, h6, h7⟩ := o6 b hb
    have h8 := a3 i h5 (by rw [h6]; exact c1)
    rw [h6] at h8
    rw [h2] at h4
    have h9 : g b = g k := by rw [h2, fa_eq]; omega
    have h10 := o3 b k hb h1 h9
    show h j = w b
    rw [h10, h3]
