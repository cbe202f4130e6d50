theorem ck_I.set5 {V : Nat → Nat → Int32} {nc nr : Nat} (hI : ck_I V nc nr) {g : Nat → Int32} (h1 : ∀ k, k < nc → ck_rg (-1) (g k) 2000000) (h2 : ∀ k, nc ≤ k → g k = V 5 k) : ck_I (va_up V 5 g) nc nr :=
  ⟨hI.num, hI.beg, hI.fst, hI.bits, hI.len, h1, hI.cl, hI.rp, hI.rd, hI.rpr, hI.rst, hI.rl, hI.rf, fun k a b => ⟨(hI.fresh k a b).1, (hI.fresh k a b).2.1, (h2 k a).trans (hI.fresh k a b).2.2.1, (hI.fresh k a b).2.2.2⟩⟩
theorem ck_I.set13 {V : Nat → Nat → Int32} {nc nr : Nat} (hI : ck_I V nc nr) (g : Nat → Int32) : ck_I (va_up V 13 g) nc nr :=
  ⟨hI.num, hI.beg, hI.fst, hI.bits, hI.len, hI.bk, hI.cl, hI.rp, hI.rd, hI.rpr, hI.rst, hI.rl, hI.rf, hI.fresh⟩
/-- booking and correcting keep the ranges -/
theorem ck_I.book {V : Nat → Nat → Int32} {nc nr : Nat} (hI : ck_I V nc nr) : ck_I (va_up V 5 (ck_bkd V nr nc)) nc nr :=
  hI.set5 (fun k hk => by
    unfold ck_bkd; split
    · exact hI.now hk
    · exact hI.bk k hk) (fun k hk => by unfold ck_bkd; rw [if_neg (fun z => absurd z.1 (by omega))])
theorem ck_I.corr {V : Nat → Nat → Int32} {nc nr : Nat} (hI : ck_I V nc nr) : ck_I (ck_cV V nr nc) nc nr :=
  (hI.set5 (g := ck_cb5 V nr nc) (fun k hk => by
    unfold ck_cb5; split
    · unfold ck_cn; split
      · exact (show ck_rg (-1) (-1 : Int32) 2000000 from ⟨by decide, by decide⟩)
      · exact hI.now hk
    · exact hI.bk k hk) (fun k hk => by unfold ck_cb5; rw [if_neg (fun z => absurd z.1 (by omega))])).set13 _
/-- a claim keeps the ranges -/
theorem ck_I.claim {V : Nat → Nat → Int32} {nc nr : Nat} (hI : ck_I V nc nr) {j : Nat} (hj : j < nc) {a : Int32} (ha : 0 ≤ a ∧ a ≤ 1000000) : ck_I (va_up V 6 (upd (V 6) j a)) nc nr :=
  ⟨hI.num, hI.beg, hI.fst, hI.bits, hI.len, hI.bk, fun k hk => by
    show ck_rg 0 (upd (V 6) j a k) 1000000
    unfold upd; split
    · exact ck_rgI ha (by decide) (by decide)
    · exact hI.cl k hk, hI.rp, hI.rd, hI.rpr, hI.rst, hI.rl, hI.rf, fun k a9 b => ⟨(hI.fresh k a9 b).1, (hI.fresh k a9 b).2.1, (hI.fresh k a9 b).2.2.1, by
    show upd (V 6) j a k = 0
    unfold upd; rw [if_neg (by omega)]; exact (hI.fresh k a9 b).2.2.2⟩⟩
