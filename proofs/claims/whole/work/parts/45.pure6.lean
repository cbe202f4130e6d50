theorem ck_I.ext {V V1 : Nat → Nat → Int32} {nc nr : Nat} (h : ck_I V nc nr) (e : ∀ i, i < 13 → V1 i = V i) : ck_I V1 nc nr := by
  unfold ck_I
  rw [e 0 (by decide), e 1 (by decide), e 2 (by decide), e 3 (by decide), e 4 (by decide), e 5 (by decide), e 6 (by decide), e 7 (by decide), e 8 (by decide), e 9 (by decide), e 10 (by decide), e 11 (by decide), e 12 (by decide)]
  exact h
theorem ck_leg_8 : ∀ b : Nat, b < 8 → ∀ q : Nat, q < 3 → (b ||| 2 ^ q) < 8 ∧ ck_leg (nI b) (nI q) = nI (b ||| 2 ^ q) := by decide +kernel
theorem ck_max_rg {x y : Int32} {lo hi : Int} (h1 : ck_rg lo x hi) (h2 : ck_rg lo y hi) : ck_rg lo (ck_max x y) hi := by
  unfold ck_max; split
  · exact h2
  · exact h1
theorem ck_I.leg {V : Nat → Nat → Int32} {nc nr : Nat} (hI : ck_I V nc nr) {j q : Nat} (hj : j < nc) (hq : q < 3) {a4 : Int32} (ha : ck_rg 0 a4 10000) : ck_I (ck_leg3 V j q a4) nc nr :=
  ⟨hI.num, hI.beg, hI.fst, fun k hk => by
    show ∃ b, b < 8 ∧ upd (V 3) j (ck_leg (V 3 j) (nI q)) k = nI b
    by_cases c : k = j
    · obtain ⟨b, hb, e⟩ := hI.bits j hj
      have h8 := ck_leg_8 b hb q hq
      exact ⟨_, h8.1, by rw [c, pk_us, e]; exact h8.2⟩
    · rw [pk_un c]; exact hI.bits k hk, fun k hk => by
    show ck_rg 0 (upd (V 4) j (ck_max (V 4 j) a4) k) 10000
    by_cases c : k = j
    · rw [c, pk_us]; exact ck_max_rg (hI.len j hj) ha
    · rw [pk_un c]; exact hI.len k hk, hI.bk, hI.cl, hI.rp, hI.rd, hI.rpr, hI.rst, hI.rl, hI.rf, fun k h1 h2 => by
    have hf := hI.fresh k h1 h2
    refine ⟨?_, ?_, hf.2.2⟩
    · show upd (V 3) j (ck_leg (V 3 j) (nI q)) k = 0
      rw [pk_un (by omega)]; exact hf.1
    · show upd (V 4) j (ck_max (V 4 j) a4) k = 0
      rw [pk_un (by omega)]; exact hf.2.1⟩
theorem ck_I.new {V : Nat → Nat → Int32} {nc nr : Nat} (hI : ck_I V nc nr) (hn : nc < 60) {q : Nat} (hq : q < 3) {a2 a3 a4 : Int32} (h2 : ck_rg 1000 a2 99999999) (h3 : ck_rg 0 a3 999999) (h4 : ck_rg 0 a4 10000) : ck_I (ck_leg3 (ck_new3 V nc a2 a3 a4) nc q a4) (nc + 1) nr :=
  ⟨ck_upd_rg hI.num h2, ck_upd_rg hI.beg h3, ck_upd_rg hI.fst h4, fun k hk => by
    show ∃ b, b < 8 ∧ upd (V 3) nc (ck_leg (V 3 nc) (nI q)) k = nI b
    by_cases c : k = nc
    · have h8 := ck_leg_8 0 (by decide) q hq
      exact ⟨_, h8.1, by rw [c, pk_us, (hI.fresh nc (Nat.le_refl _) hn).1]; exact h8.2⟩
    · rw [pk_un c]; exact hI.bits k (by omega), fun k hk => by
    show ck_rg 0 (upd (V 4) nc (ck_max (V 4 nc) a4) k) 10000
    by_cases c : k = nc
    · rw [c, pk_us, (hI.fresh nc (Nat.le_refl _) hn).2.1]; exact ck_max_rg ⟨by decide, by decide⟩ h4
    · rw [pk_un c]; exact hI.len k (by omega), fun k hk => by
    show ck_rg (-1) (V 5 k) 2000000
    by_cases c : k = nc
    · rw [c, (hI.fresh nc (Nat.le_refl _) hn).2.2.1]; exact ⟨by decide, by decide⟩
    · exact hI.bk k (by omega), fun k hk => by
    show ck_rg 0 (V 6 k) 1000000
    by_cases c : k = nc
    · rw [c, (hI.fresh nc (Nat.le_refl _) hn).2.2.2]; exact ⟨by decide, by decide⟩
    · exact hI.cl k (by omega), hI.rp, hI.rd, hI.rpr, hI.rst, hI.rl, hI.rf, fun k h1 h2 => by
    have hf := hI.fresh k (by omega) h2
    refine ⟨?_, ?_, hf.2.2⟩
    · show upd (V 3) nc (ck_leg (V 3 nc) (nI q)) k = 0
      rw [pk_un (by omega)]; exact hf.1
    · show upd (V 4) nc (ck_max (V 4 nc) a4) k = 0
      rw [pk_un (by omega)]; exact hf.2.1⟩
-- ===== what holds between calls of the law =====
def ck_oQ (V : Nat → Nat → Int32) (q m : Nat) : Prop := V 28 q = nI m ∧ ck_oR (V (20 + q)) (V (24 + q)) (fun k => V 29 (10 * q + k)) (fun k => V 30 (10 * q + k)) m
def ck_oJ (V : Nat → Nat → Int32) : Prop := ∀ q, q < 4 → ck_oQ V q (ck_cnt V q)
def ck_sJ (V : Nat → Nat → Int32) (n : Nat) : Prop := ∀ q, q < 3 → (∃ c, c ≤ n ∧ V 14 q = nI c) ∧ ((V 14 q = 0 ∧ V 16 q = 9999 ∧ V 17 q = 0) ∨ (¬ V 14 q = 0 ∧ V 16 q = V 18 q ∧ V 17 q = V 19 q))
def ck_J (V : Nat → Nat → Int32) (nc nr n : Nat) : Prop := ck_I V nc nr ∧ ck_oJ V ∧ ck_sJ V n
theorem ck_oQ.cnt {V : Nat → Nat → Int32} {q m : Nat} (h : ck_oQ V q m) : ck_cnt V q = m := by
  unfold ck_cnt; rw [h.1]; exact nI_clamp (by have := h.2.m; omega)
theorem ck_oJ.oM {V : Nat → Nat → Int32} (h : ck_oJ V) : ck_oM V := fun i hi => ⟨(h i hi).1, (h i hi).2.m, fun k hk => (h i hi).2.2.2.2.1 k hk⟩
theorem ck_oJ.pr {V : Nat → Nat → Int32} (h : ck_oJ V) (x : Int32) : ∀ q, q < 4 → ck_pr V x q = ck_mo V x q := fun q hq => by
  have h1 := (h q hq).2.price x
  unfold ck_pr ck_mo ck_mp
  generalize ck_of (fun k => V 29 (10 * q + k)) x (ck_cnt V q) = ob at h1 ⊢
  rw [h1]
  cases ob <;> rfl
theorem ck_oJ.ext {V V1 : Nat → Nat → Int32} (h : ck_oJ V) (e : ∀ i, 20 ≤ i → i < 31 → V1 i = V i) : ck_oJ V1 := fun q hq => by
  have h1 := h q hq
  unfold ck_oQ ck_cnt at h1 ⊢
  rw [e 28 (by decide) (by decide), e 29 (by decide) (by decide), e 30 (by decide) (by decide), e (20 + q) (by omega) (by omega), e (24 + q) (by omega) (by omega)]
  exact h1
theorem ck_sJ.ext {V V1 : Nat → Nat → Int32} {n n1 : Nat} (h : ck_sJ V n) (hn : n ≤ n1) (e14 : V1 14 = V 14) (e16 : V1 16 = V 16) (e17 : V1 17 = V 17) (e18 : V1 18 = V 18) (e19 : V1 19 = V 19) : ck_sJ V1 n1 := fun q hq => by
  rw [e14, e16, e17, e18, e19]
  obtain ⟨⟨c, h1, h2⟩, h3⟩ := h q hq
  exact ⟨⟨c, by omega, h2⟩, h3⟩
theorem ck_J.mono {V : Nat → Nat → Int32} {nc nr n n1 : Nat} (h : ck_J V nc nr n) (hn : n ≤ n1) : ck_J V nc nr n1 := ⟨h.1, h.2.1, h.2.2.ext hn rfl rfl rfl rfl rfl⟩
theorem ck_J.upI {V V1 : Nat → Nat → Int32} {nc nr nc1 nr1 n : Nat} (h : ck_J V nc nr n) (hI : ck_I V1 nc1 nr1) (e : ∀ i, 14 ≤ i → V1 i = V i) : ck_J V1 nc1 nr1 (n + 1) :=
  ⟨hI, h.2.1.ext (fun i h1 _ => e i (by omega)), h.2.2.ext (by omega) (e 14 (by decide)) (e 16 (by decide)) (e 17 (by decide)) (e 18 (by decide)) (e 19 (by decide))⟩
/-- one state out of the class's and the reference's -/
def ck_mg (VC VM : Nat → Nat → Int32) : Nat → Nat → Int32 := fun i => if i = 16 ∨ i = 17 ∨ (20 ≤ i ∧ i < 28) then VC i else VM i
theorem ck_mg_C {VC VM : Nat → Nat → Int32} (e : ∀ i, i < 16 → VC i = VM i) : ∀ i, i < 18 ∨ (20 ≤ i ∧ i < 28) → ck_mg VC VM i = VC i := fun i hi => by
  unfold ck_mg
  by_cases c : i = 16 ∨ i = 17 ∨ (20 ≤ i ∧ i < 28)
  · rw [if_pos c]
  · rw [if_neg c]; exact (e i (by omega)).symm
theorem ck_mg_M {VC VM : Nat → Nat → Int32} : ∀ i, i < 16 ∨ i = 18 ∨ i = 19 ∨ (28 ≤ i ∧ i < 31) → ck_mg VC VM i = VM i := fun i hi => by
  unfold ck_mg
  rw [if_neg (by omega)]
theorem ck_mg_same (V : Nat → Nat → Int32) : ck_mg V V = V := by
  funext i; unfold ck_mg; split <;> rfl
theorem ck_C.ext {G : ck_G} {ad : Nat → Nat} {V V1 : Nat → Nat → Int32} {L : Nat → Nat → Int64} {nc nr : Nat} {N : Nat → Prop} {F : Nat → va_E} (h : ck_C G ad V L nc nr N F) (e : ∀ i, i < 18 ∨ (20 ≤ i ∧ i < 28) → V1 i = V i) : ck_C G ad V1 L nc nr N F :=
  ⟨h.nc, h.nr, by rw [e 13 (by decide)]; exact h.f0, h.f1, h.f2, h.f3, h.f4, fun k hk => by rw [e 14 (by decide), e 15 (by decide), e 16 (by decide), e 17 (by decide)]; exact h.src k hk, h.del, h.car, fun k hk => by rw [e (20 + k) (by omega)]; exact h.pre k hk, fun k hk => by rw [e (24 + k) (by omega)]; exact h.pri k hk, fun k hk => by rw [e 0 (by decide), e 1 (by decide), e 2 (by decide), e 3 (by decide), e 4 (by decide), e 5 (by decide), e 6 (by decide)]; exact h.call k hk, fun k hk => by rw [e 7 (by decide), e 8 (by decide), e 9 (by decide), e 10 (by decide), e 11 (by decide), e 12 (by decide)]; exact h.rate k hk, h.n, h.ncall, h.nrate⟩
theorem ck_M.ext {G : ck_G} {ad : Nat → Nat} {V V1 : Nat → Nat → Int32} {L : Nat → Nat → Int64} {nc nr : Nat} {t : Int32} {N : Nat → Prop} {F : Nat → va_E} (h : ck_M G ad V L nc nr t N F) (e : ∀ i, i < 16 ∨ i = 18 ∨ i = 19 ∨ (28 ≤ i ∧ i < 31) → V1 i = V i) : ck_M G ad V1 L nc nr t N F := by
  unfold ck_M
  rw [e 0 (by decide), e 1 (by decide), e 2 (by decide), e 3 (by decide), e 4 (by decide), e 5 (by decide), e 6 (by decide), e 7 (by decide), e 8 (by decide), e 9 (by decide), e 10 (by decide), e 11 (by decide), e 12 (by decide), e 13 (by decide), e 14 (by decide), e 15 (by decide), e 18 (by decide), e 19 (by decide), e 28 (by decide), e 29 (by decide), e 30 (by decide)]
  exact h
/-- other addresses for what isn't alive -/
theorem ck_W.adE {G : ck_G} {ad ad1 : Nat → Nat} {N : Nat → Prop} {F : Nat → va_E} {H : Heap} (h : ck_W G ad N F H) (e : ∀ i, N i → ad1 i = ad i) : ck_W G ad1 N F H :=
  ⟨fun i hi => by rw [e i hi]; exact h.1 i hi, fun i j hi hj => by rw [e i hi, e j hj]; exact h.2 i j hi hj⟩
theorem ck_W.less {G : ck_G} {ad : Nat → Nat} {N N1 : Nat → Prop} {F : Nat → va_E} {H : Heap} (h : ck_W G ad N F H) (e : ∀ i, N1 i → N i) : ck_W G ad N1 F H :=
  ⟨fun i hi => h.1 i (e i hi), fun i j hi hj => h.2 i j (e i hi) (e j hj)⟩
theorem ck_C.adE {G : ck_G} {ad ad1 : Nat → Nat} {V : Nat → Nat → Int32} {L : Nat → Nat → Int64} {nc nr : Nat} {N : Nat → Prop} {F : Nat → va_E} (h : ck_C G ad V L nc nr N F) (e : ∀ i, N i → ad1 i = ad i) : ck_C G ad1 V L nc nr N F :=
  have q : ∀ i, i < 23 → ad1 i = ad i := fun i hi => e i (h.n i hi)
  ⟨h.nc, h.nr, by rw [q 1 (by decide), q 2 (by decide), q 3 (by decide), q 4 (by decide)]; exact h.f0, by obtain ⟨f, e1, e2⟩ := h.f1; exact ⟨f, e1, fun k hk => by rw [q (5 + k) (by omega)]; exact e2 k hk⟩,
    by obtain ⟨f, e1, e2⟩ := h.f2; exact ⟨f, e1, fun k hk => by
        rw [e2 k hk]
        by_cases c : k < nc
        · rw [if_pos c, if_pos c, e _ (h.ncall k c)]
        · rw [if_neg c, if_neg c]⟩,
    by obtain ⟨f, e1, e2⟩ := h.f3; exact ⟨f, e1, fun k hk => by
        rw [e2 k hk]
        by_cases c : k < nr
        · rw [if_pos c, if_pos c, e _ (h.nrate k c)]
        · rw [if_neg c, if_neg c]⟩,
    by obtain ⟨f, e1, e2⟩ := h.f4; exact ⟨f, e1, fun k hk => by rw [q (11 + k) (by omega)]; exact e2 k hk⟩,
    fun k hk => by rw [q (8 + k) (by omega)]; exact h.src k hk, h.del, fun k hk => by rw [q (15 + k) (by omega), q (19 + k) (by omega)]; exact h.car k hk, h.pre, h.pri, h.call, h.rate, h.n, h.ncall, h.nrate⟩
theorem ck_C.nE {G : ck_G} {ad : Nat → Nat} {V : Nat → Nat → Int32} {L : Nat → Nat → Int64} {nc nr : Nat} {N N1 : Nat → Prop} {F : Nat → va_E} (h : ck_C G ad V L nc nr N F) (h1 : ∀ i, i < 23 → N1 i) (h2 : ∀ k, k < nc → N1 (100 + k)) (h3 : ∀ k, k < nr → N1 (200 + k)) : ck_C G ad V L nc nr N1 F :=
  ⟨h.nc, h.nr, h.f0, h.f1, h.f2, h.f3, h.f4, h.src, h.del, h.car, h.pre, h.pri, h.call, h.rate, h1, h2, h3⟩
theorem ck_C.fE {G : ck_G} {ad : Nat → Nat} {V : Nat → Nat → Int32} {L : Nat → Nat → Int64} {nc nr : Nat} {N : Nat → Prop} {F F1 : Nat → va_E} (h : ck_C G ad V L nc nr N F) (o : ∀ i, i < 23 ∨ 100 ≤ i → F1 i = F i) : ck_C G ad V L nc nr N F1 :=
  ⟨h.nc, h.nr, by rw [o 0 (by decide)]; exact h.f0, by rw [o 1 (by decide)]; exact h.f1, by rw [o 2 (by decide)]; exact h.f2, by rw [o 3 (by decide)]; exact h.f3, by rw [o 4 (by decide)]; exact h.f4, fun k hk => by rw [o _ (by omega)]; exact h.src k hk, fun k hk => by rw [o _ (by omega)]; exact h.del k hk, fun k hk => by rw [o _ (by omega)]; exact h.car k hk, fun k hk => by rw [o _ (by omega)]; exact h.pre k hk, fun k hk => by rw [o _ (by omega)]; exact h.pri k hk, fun k hk => by rw [o _ (by omega)]; exact h.call k hk, fun k hk => by rw [o _ (by omega)]; exact h.rate k hk, h.n, h.ncall, h.nrate⟩
theorem ck_M.adE {G : ck_G} {ad ad1 : Nat → Nat} {V : Nat → Nat → Int32} {L : Nat → Nat → Int64} {nc nr : Nat} {t : Int32} {N : Nat → Prop} {F : Nat → va_E} (h : ck_M G ad V L nc nr t N F) (e : ∀ i, N i → ad1 i = ad i) : ck_M G ad1 V L nc nr t N F := by
  have q : ∀ i, 30 ≤ i → i < 52 → ad1 i = ad i := fun i h1 h2 => e i (h.n i h1 h2)
  unfold ck_M
  rw [q 31 (by decide) (by decide), q 32 (by decide) (by decide), q 33 (by decide) (by decide), q 34 (by decide) (by decide), q 35 (by decide) (by decide), q 36 (by decide) (by decide), q 37 (by decide) (by decide), q 38 (by decide) (by decide), q 39 (by decide) (by decide), q 40 (by decide) (by decide), q 41 (by decide) (by decide), q 42 (by decide) (by decide), q 43 (by decide) (by decide), q 44 (by decide) (by decide), q 45 (by decide) (by decide), q 46 (by decide) (by decide), q 47 (by decide) (by decide), q 48 (by decide) (by decide), q 49 (by decide) (by decide), q 50 (by decide) (by decide), q 51 (by decide) (by decide)]
  exact h
theorem ck_M.fE {G : ck_G} {ad : Nat → Nat} {V : Nat → Nat → Int32} {L : Nat → Nat → Int64} {nc nr : Nat} {t : Int32} {N N1 : Nat → Prop} {F F1 : Nat → va_E} (h : ck_M G ad V L nc nr t N F) (o : ∀ i, 30 ≤ i → i < 52 → F1 i = F i) (n : ∀ i, 30 ≤ i → i < 52 → N1 i) : ck_M G ad V L nc nr t N1 F1 := by
  unfold ck_M
  rw [o 30 (by decide) (by decide), o 31 (by decide) (by decide), o 32 (by decide) (by decide), o 33 (by decide) (by decide), o 34 (by decide) (by decide), o 35 (by decide) (by decide), o 36 (by decide) (by decide), o 37 (by decide) (by decide), o 38 (by decide) (by decide), o 39 (by decide) (by decide), o 40 (by decide) (by decide), o 41 (by decide) (by decide), o 42 (by decide) (by decide), o 43 (by decide) (by decide), o 44 (by decide) (by decide), o 45 (by decide) (by decide), o 46 (by decide) (by decide), o 47 (by decide) (by decide), o 48 (by decide) (by decide), o 49 (by decide) (by decide), o 50 (by decide) (by decide), o 51 (by decide) (by decide)]
  obtain ⟨h1, h2, h3, h4, h5, h6, h7, h8, h9, h10, h11, h12, h13, h14, h15, h16, h17, h18, h19, h20, h21, h22, h23, h24, -⟩ := h
  exact ⟨h1, h2, h3, h4, h5, h6, h7, h8, h9, h10, h11, h12, h13, h14, h15, h16, h17, h18, h19, h20, h21, h22, h23, h24, n⟩
