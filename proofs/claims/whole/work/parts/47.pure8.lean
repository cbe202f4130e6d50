theorem ck_plx {f : Nat → Int32} {x : Int32} : ∀ n k, k + n < 2 ^ 31 → ck_pl f x k n = -1 → ∀ j, k ≤ j → j < k + n → ¬ f j = x
  | 0, k, _, _, j, h1, h2 => by omega
  | n + 1, k, hb, h, j, h1, h2 => by
    simp only [ck_pl] at h
    by_cases c : f k = x
    · rw [if_pos c] at h; exact absurd h (ck_m1 (by omega))
    · rw [if_neg c] at h
      by_cases d : j = k
      · subst d; exact c
      · exact ck_plx n (k + 1) (by omega) h j (by omega) (by omega)
theorem ck_place_no {f : Nat → Int32} {x : Int32} (h : ck_place f x = -1) : ∀ j, j < 10 → ¬ f j = x := fun j hj => ck_plx 10 0 (by decide) h j (Nat.zero_le j) (by omega)
theorem ck_updq (F : Nat → Int32) (q b : Nat) (x : Int32) (k : Nat) : upd F (10 * q + b) x (10 * q + k) = upd (fun k => F (10 * q + k)) b x k := by
  by_cases c : k = b
  · rw [c, pk_us, pk_us]
  · rw [pk_un c, pk_un (by omega)]
theorem ck_offJ {V VM : Nat → Nat → Int32} {nc nr n q m1 : Nat} (hJ : ck_J V nc nr n) (hq : q < 4) {f1 h1 : Nat → Int32} (o : ck_oR f1 h1 (fun k => VM 29 (10 * q + k)) (fun k => VM 30 (10 * q + k)) m1) (e28 : VM 28 = upd (V 28) q (nI m1)) (e29 : ∀ p k, p ≠ q → k < 10 → VM 29 (10 * p + k) = V 29 (10 * p + k)) (e30 : ∀ p k, p ≠ q → k < 10 → VM 30 (10 * p + k) = V 30 (10 * p + k)) (e : ∀ i, i < 28 → VM i = V i) :
    (∀ i, i < 16 → va_up (va_up V (20 + q) f1) (24 + q) h1 i = VM i) ∧ ck_J (ck_mg (va_up (va_up V (20 + q) f1) (24 + q) h1) VM) nc nr (n + 1) := by
  have hC : ∀ i, i ≠ 20 + q → i ≠ 24 + q → va_up (va_up V (20 + q) f1) (24 + q) h1 i = V i := fun i h1 h2 => by rw [va_up_ne _ _ h2, va_up_ne _ _ h1]
  have e16 : ∀ i, i < 16 → va_up (va_up V (20 + q) f1) (24 + q) h1 i = VM i := fun i hi => by rw [hC i (by omega) (by omega), e i (by omega)]
  refine ⟨e16, hJ.1.ext (fun i hi => by rw [ck_mg_M i (by omega), e i (by omega)]), fun p hp => ?_, hJ.2.2.ext (Nat.le_succ n) ((ck_mg_M 14 (by decide)).trans (e 14 (by decide))) ((ck_mg_C e16 16 (by decide)).trans (hC 16 (by omega) (by omega))) ((ck_mg_C e16 17 (by decide)).trans (hC 17 (by omega) (by omega))) ((ck_mg_M 18 (by decide)).trans (e 18 (by decide))) ((ck_mg_M 19 (by decide)).trans (e 19 (by decide)))⟩
  have x28 : ck_mg (va_up (va_up V (20 + q) f1) (24 + q) h1) VM 28 = VM 28 := ck_mg_M 28 (by decide)
  have x29 : ck_mg (va_up (va_up V (20 + q) f1) (24 + q) h1) VM 29 = VM 29 := ck_mg_M 29 (by decide)
  have x30 : ck_mg (va_up (va_up V (20 + q) f1) (24 + q) h1) VM 30 = VM 30 := ck_mg_M 30 (by decide)
  have xp : ck_mg (va_up (va_up V (20 + q) f1) (24 + q) h1) VM (20 + p) = va_up (va_up V (20 + q) f1) (24 + q) h1 (20 + p) := ck_mg_C e16 (20 + p) (by omega)
  have xr : ck_mg (va_up (va_up V (20 + q) f1) (24 + q) h1) VM (24 + p) = va_up (va_up V (20 + q) f1) (24 + q) h1 (24 + p) := ck_mg_C e16 (24 + p) (by omega)
  by_cases c : p = q
  · subst c
    have hQ : ck_oQ (ck_mg (va_up (va_up V (20 + p) f1) (24 + p) h1) VM) p m1 := by
      unfold ck_oQ
      rw [x28, x29, x30, xp, xr, va_up_ne _ _ (show 20 + p ≠ 24 + p by omega), va_up_self, va_up_self, e28]
      exact ⟨pk_us, o⟩
    rw [hQ.cnt]
    exact hQ
  · have h9 := hJ.2.1 p hp
    have ec : ck_cnt (ck_mg (va_up (va_up V (20 + q) f1) (24 + q) h1) VM) p = ck_cnt V p := by
      unfold ck_cnt; rw [x28, e28, pk_un c]
    rw [ec]
    unfold ck_oQ
    rw [x28, x29, x30, xp, xr, hC (20 + p) (by omega) (by omega), hC (24 + p) (by omega) (by omega), e28, pk_un c]
    have h10 := h9.2.m
    exact ⟨h9.1, h9.2.congr (fun _ _ => rfl) (fun _ _ _ => rfl) (fun k hk => ⟨e29 p k c (by omega), e30 p k c (by omega)⟩)⟩
theorem ck_upd_id {f : Nat → Int32} {b : Nat} {x : Int32} (h : f b = x) : upd f b x = f := by
  funext j
  by_cases c : j = b
  · rw [c, pk_us, h]
  · rw [pk_un c]
/-- nothing changed in the reference -/
theorem ck_offJ0 {V : Nat → Nat → Int32} {nc nr n q : Nat} (hJ : ck_J V nc nr n) (hq : q < 4) {f1 h1 : Nat → Int32} (o : ck_oR f1 h1 (fun k => V 29 (10 * q + k)) (fun k => V 30 (10 * q + k)) (ck_cnt V q)) : (∀ i, i < 16 → va_up (va_up V (20 + q) f1) (24 + q) h1 i = V i) ∧ ck_J (ck_mg (va_up (va_up V (20 + q) f1) (24 + q) h1) V) nc nr (n + 1) :=
  ck_offJ hJ hq o (ck_upd_id (hJ.2.1 q hq).1).symm (fun _ _ _ _ => rfl) (fun _ _ _ _ => rfl) (fun _ _ => rfl)
theorem ck_s_off {V : Nat → Nat → Int32} {L : Nat → Nat → Int64} {nc nr n : Nat} (hJ : ck_J V nc nr n) {a0 a1 a2 kC rC kM rM : Int32} {VC VM : Nat → Nat → Int32} (a : ck_RoffC V a0 a1 a2 kC rC VC) (b : ck_RoffM V a0 a1 a2 kM rM VM) : ck_syn n kC rC VC L nc nr kM rM VM L nc nr := by
  have hok : ∀ x : Int32, (0 ≤ x ∧ x ≤ 3) ↔ ck_ok x 4 := fun x => ck_ok_le (x := x) (n := 3) (by decide)
  have hm : ck_mg V V = V := ck_mg_same V
  rcases a with ⟨a5, rfl, rfl⟩ | ⟨a5, q, hq, rfl, a6⟩ <;> rcases b with ⟨b5, rfl, rfl⟩ | ⟨b5, q2, hq2, e2, b6⟩
  · exact ⟨rfl, fun z => absurd z (by decide), rfl, rfl, rfl, fun _ _ => rfl, by rw [ck_mg_same]; exact hJ.mono (Nat.le_succ n)⟩
  · exact absurd ⟨(hok _).mp b5.1, b5.2⟩ a5
  · exact absurd ⟨(hok _).mpr (ck_ok_nI hq (by decide)), a5⟩ b5
  · have e4 : q = q2 := (nI_eq (by omega) (by omega)).mp e2
    subst e4
    have o := (hJ.2.1 q hq).2
    have hV28 := (hJ.2.1 q hq).1
    have h10 := o.m
    have hP : ck_rg 1 a1 99999 := ck_rgI a5.1 (by decide) (by decide)
    have hP0 := ck_rg1_ne hP
    have hz : ¬ a2 = -1 → ck_rg 0 a2 10000 := fun hne => by
      have h1 := ck_rgI (A := -1) (B := 10000) a5.2 (by decide) (by decide)
      have h2 : ¬ a2.toInt = -1 := fun z => hne ((fa_eq _ _).mpr z)
      exact ⟨by have := h1.1; omega, h1.2⟩
    generalize hmm : ck_cnt V q = m at o b6 h10 hV28
    have fnd : ∀ b, b < m → ck_la (ck_gO V q) a1 m = some b → V 29 (10 * q + b) = a1 := fun b _ h => (ck_la_in h).2
    have nfd : ck_la (ck_gO V q) a1 m = none → ∀ k, k < m → ¬ V 29 (10 * q + k) = a1 := fun h k hk => ck_la_none h k hk
    rcases a6 with ⟨a7, a8, rfl, e9⟩ | ⟨a7, rfl, f1, h1, a8, rfl⟩
    · have n1 : ∀ j, j < 10 → ¬ V (20 + q) j = a1 := ck_place_no (Decidable.not_not.mp (fun z => a8 (Or.inl z)))
      have n0 : ∀ j, j < 10 → ¬ V (20 + q) j = 0 := ck_place_no (Decidable.not_not.mp (fun z => a8 (Or.inr z)))
      have hm10 : m = 10 := by rw [← o.1]; exact ck_ct_full 10 n0
      rcases b6 with ⟨b7, b8, -⟩ | ⟨b7, b8, b9, rfl, e8⟩ | ⟨b7, b8, b9, -⟩ | ⟨b, hb, b7, b8, -⟩ | ⟨b, hb, b7, -⟩
      · exact absurd b8 a7
      · rw [e9, e8]; exact ⟨rfl, fun z => absurd z (by decide), rfl, rfl, rfl, fun _ _ => rfl, by rw [ck_mg_same]; exact hJ.mono (Nat.le_succ n)⟩
      · omega
      · exact absurd b8 a7
      · obtain ⟨j, c1, c2, -⟩ := o.2.2.2.2.2 b hb
        exact absurd (c2.trans (fnd b hb b7)) (n1 j c1)
    · rcases a8 with ⟨b0, hb0, -, f0, rfl, rfl, rfl⟩ | ⟨p1, b0, hb0, -, f0, rfl, rfl, rfl⟩ | ⟨p1, p0, rfl, rfl, rfl⟩
      · obtain ⟨k, k1, k2, k3⟩ := o.2.2.2.2.1 b0 hb0 (by rw [f0]; exact hP0)
        have k2' : V 29 (10 * q + k) = a1 := k2.trans f0
        rcases b6 with ⟨b7, -⟩ | ⟨b7, -⟩ | ⟨b7, -⟩ | ⟨b, hb, b7, b8, rfl, rfl, rfl⟩ | ⟨b, hb, b7, b8, rfl, rfl, rfl⟩
        · exact absurd k2' (nfd b7 k k1)
        · exact absurd k2' (nfd b7 k k1)
        · exact absurd k2' (nfd b7 k k1)
        · have g1 := fnd b hb b7
          have ekb : k = b := o.2.2.1 k b k1 hb (k2'.trans g1.symm)
          subst ekb
          have hp : ck_px a2 a1 = 0 := by unfold ck_px; rw [if_pos b8]
          rw [hp]
          have o2 := o.del hb0 hb a2 (f0.trans g1.symm)
          have hj := ck_offJ (VM := ck_oDel V q m k) (m1 := m - 1) hJ hq (f1 := upd (V (20 + q)) b0 0) (h1 := upd (V (24 + q)) b0 a2) (o2.congr (fun _ _ => rfl) (fun _ _ _ => rfl) (fun k3 _ => ⟨ck_updq (V 29) q k _ k3, ck_updq (V 30) q k _ k3⟩)) rfl (fun p k3 hp hk3 => pk_un (by omega)) (fun p k3 hp hk3 => pk_un (by omega)) (fun i hi => by unfold ck_oDel; rw [va_up_ne _ _ (by omega), va_up_ne _ _ (by omega), va_up_ne _ _ (by omega)])
          exact ⟨rfl, fun _ => k3.symm, rfl, rfl, rfl, hj.1, hj.2⟩
        · have g1 := fnd b hb b7
          have ekb : k = b := o.2.2.1 k b k1 hb (k2'.trans g1.symm)
          subst ekb
          have hp : ck_px a2 a1 = a1 := by unfold ck_px; rw [if_neg b8]
          rw [hp]
          have o2 := o.set (z := a2) hb0 hb f0 g1 (hz b8)
          have hj := ck_offJ (VM := ck_oSet V q k a1 a2) (m1 := m) hJ hq (f1 := upd (V (20 + q)) b0 a1) (h1 := upd (V (24 + q)) b0 a2) (o2.congr (fun _ _ => rfl) (fun _ _ _ => rfl) (fun k3 _ => ⟨ck_updq (V 29) q k _ k3, ck_updq (V 30) q k _ k3⟩)) (by rw [← hV28]; rfl) (fun p k3 hp hk3 => pk_un (by omega)) (fun p k3 hp hk3 => pk_un (by omega)) (fun i hi => by unfold ck_oSet; rw [va_up_ne _ _ (by omega), va_up_ne _ _ (by omega), va_up_ne _ _ (by omega)])
          exact ⟨rfl, fun _ => k3.symm, rfl, rfl, rfl, hj.1, hj.2⟩
      · have n1 := ck_place_no p1
        have hlt : m < 10 := by rw [← o.1]; exact ck_ct_free f0 10 hb0
        rcases b6 with ⟨b7, b8, rfl, rfl, e9⟩ | ⟨b7, b8, b9, -⟩ | ⟨b7, b8, b9, rfl, rfl, rfl⟩ | ⟨b, hb, b7, -⟩ | ⟨b, hb, b7, -⟩
        · have hp : ck_px a2 a1 = 0 := by unfold ck_px; rw [if_pos b8]
          rw [hp, e9]
          have hj := ck_offJ0 hJ hq (f1 := upd (V (20 + q)) b0 0) (h1 := upd (V (24 + q)) b0 a2) (by
            rw [hmm]
            exact o.congr (fun j _ => by rw [ck_upd_id f0]) (fun j _ hj0 => pk_un (fun z => hj0 (by rw [z, f0]))) (fun _ _ => ⟨rfl, rfl⟩))
          exact ⟨rfl, fun _ => rfl, rfl, rfl, rfl, hj.1, hj.2⟩
        · omega
        · have hp : ck_px a2 a1 = a1 := by unfold ck_px; rw [if_neg b8]
          rw [hp]
          have o2 := o.add hb0 f0 hP (hz b8) (nfd b7)
          have hj := ck_offJ (VM := ck_oAdd V q m a1 a2) (m1 := m + 1) hJ hq (f1 := upd (V (20 + q)) b0 a1) (h1 := upd (V (24 + q)) b0 a2) (o2.congr (fun _ _ => rfl) (fun _ _ _ => rfl) (fun k3 _ => ⟨ck_updq (V 29) q m _ k3, ck_updq (V 30) q m _ k3⟩)) rfl (fun p k3 hp hk3 => pk_un (by omega)) (fun p k3 hp hk3 => pk_un (by omega)) (fun i hi => by unfold ck_oAdd; rw [va_up_ne _ _ (by omega), va_up_ne _ _ (by omega), va_up_ne _ _ (by omega)])
          exact ⟨rfl, fun _ => rfl, rfl, rfl, rfl, hj.1, hj.2⟩
        · obtain ⟨j, c1, c2, -⟩ := o.2.2.2.2.2 b hb
          exact absurd (c2.trans (fnd b hb b7)) (n1 j c1)
        · obtain ⟨j, c1, c2, -⟩ := o.2.2.2.2.2 b hb
          exact absurd (c2.trans (fnd b hb b7)) (n1 j c1)
      · have n1 := ck_place_no p1
        have hm1 : a2 = -1 := a7.elim id (fun z => z.elim (fun z => absurd p1 z) (fun z => absurd p0 z))
        rcases b6 with ⟨b7, b8, rfl, rfl, e9⟩ | ⟨b7, b8, b9, -⟩ | ⟨b7, b8, b9, -⟩ | ⟨b, hb, b7, -⟩ | ⟨b, hb, b7, -⟩
        · rw [e9]
          have hj := ck_offJ0 hJ hq (f1 := V (20 + q)) (h1 := V (24 + q)) (by rw [hmm]; exact o)
          exact ⟨rfl, fun _ => rfl, rfl, rfl, rfl, hj.1, hj.2⟩
        · exact absurd hm1 b8
        · exact absurd hm1 b8
        · obtain ⟨j, c1, c2, -⟩ := o.2.2.2.2.2 b hb
          exact absurd (c2.trans (fnd b hb b7)) (n1 j c1)
        · obtain ⟨j, c1, c2, -⟩ := o.2.2.2.2.2 b hb
          exact absurd (c2.trans (fnd b hb b7)) (n1 j c1)
