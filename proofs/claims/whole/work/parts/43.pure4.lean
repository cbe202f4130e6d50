theorem ck_upd_rg {f : Nat → Int32} {n : Nat} {x : Int32} {lo hi : Int} (h : ∀ k, k < n → ck_rg lo (f k) hi) (hx : ck_rg lo x hi) : ∀ k, k < n + 1 → ck_rg lo (upd f n x k) hi := fun k hk => by
  unfold upd; split
  · exact hx
  · exact h k (by omega)
/-- a new rate keeps the ranges -/
theorem ck_I.addR {V : Nat → Nat → Int32} {nc nr : Nat} (hI : ck_I V nc nr) {a0 a1 a2 a3 a4 a5 : Int32} (hR : ck_isR a0 a1 a2 a3 a4 a5) : ck_I (ck_addR V nr a0 a1 a2 a3 a4 a5) nc (nr + 1) :=
  ⟨hI.num, hI.beg, hI.fst, hI.bits, hI.len, hI.bk, hI.cl, ck_upd_rg hI.rp (ck_rgI hR.1 (by decide) (by decide)), ck_upd_rg hI.rd (ck_rgI hR.2.1 (by decide) (by decide)), ck_upd_rg hI.rpr (ck_rgI hR.2.2.1 (by decide) (by decide)), ck_upd_rg hI.rst (ck_rgI hR.2.2.2.1 (by decide) (by decide)), ck_upd_rg hI.rl (ck_rgI hR.2.2.2.2.1 (by decide) (by decide)), ck_upd_rg hI.rf (ck_rgI hR.2.2.2.2.2 (by decide) (by decide)), hI.fresh⟩
