-- ===== what the Statement gives of the start =====
theorem ck_strs_in : ∀ q ∈ ck_strs, Cond.stringRef RX4 q.1 q.2 ∈ lw_tbl := by decide +kernel
theorem ck_exc_in : ∀ E ∈ ck_exc, Cond.castable E E ∈ lw_tbl := by decide +kernel
theorem ck_decl_in : ∀ y ∈ ck_decl, Cond.declares y ∈ lw_tbl := by decide +kernel
theorem ck_ao_in : ∀ C ∈ ck_ao, Cond.arrayOver (.object C) ∈ lw_tbl := by decide +kernel
theorem ck_inst_in : ∀ q ∈ [(RX0, 8), (RX1, 2), (RX2, 7), (RX3, 5), (RX4, 8), (RX5, 26)], Cond.instantiable q.1 q.2 ∈ lw_tbl := by decide +kernel
theorem ck_some_in : ∀ w ∈ [Cond.arrayClass .int, Cond.arrayClass .long, Cond.methodLinkNest RX4 37 yX3_init RX4, Cond.methodLinkNest RX4 38 yX1_init RX4, Cond.methodLinkNest RX1 22 yX4_fits RX4, Cond.laysStatic Bundle.tN "UNASSIGNED_STACK" Bundle.steD, Cond.laysStatic Bundle.tN "SUPPRESSED_SENTINEL" Bundle.listD, Cond.initialized Bundle.tN], w ∈ lw_tbl := by decide +kernel
theorem ck_nc_in : ∀ q ∈ ck_nc, Cond.not (.castable q.1 q.2) ∈ flatC (Jvm.Cond.and given_1 narrow_1) := by decide +kernel
theorem ck_st_in : ∀ w ∈ [Cond.isRef (.static Bundle.tN "UNASSIGNED_STACK" Bundle.steD), Cond.isRef (.static Bundle.tN "SUPPRESSED_SENTINEL" Bundle.listD)], w ∈ flatC (Jvm.Cond.and given_1 narrow_1) := by decide +kernel
theorem ck_arrC {args : Array Value} {s : State} {ty : FieldType} (hty : ∀ C, ty ≠ .object C) (h : (Cond.arrayClass ty).before args s = true) : ∃ cA, ArrOfT s cA ty ∧ va_RA s cA ty := by
  obtain ⟨cA, kA, comp, h1, h2, h3⟩ := Cond.arrayClass_spec h
  refine ⟨cA, fun N z => ⟨(fun k h => by cases h), kA, h2, comp, h3⟩, ?_⟩
  cases ty <;> first | exact h1 | exact absurd rfl (hty _)
theorem ck_arrO {args : Array Value} {s : State} {C : String} (h : (Cond.arrayOver (.object C)).before args s = true) : ∃ cA, ArrOfT s cA (.object C) ∧ va_RA s cA (.object C) := by
  obtain ⟨comp, cA, kA, h1, -, h2, h3, h4⟩ := Cond.arrayOver_spec h
  exact ⟨cA, fun N z => ⟨(fun k h => by cases h), kA, h2, comp, h3⟩, kA, comp, h2, h3, h1, h4⟩
theorem ck_notrace {l : Launch} (h : l.flags = flags0) : l.stackTraces = false := by
  unfold Launch.stackTraces
  rw [h]
  decide +kernel
set_option maxHeartbeats 4000000 in
theorem ck_begin {args : Array Value} {s : State} (hts : ∀ w ∈ lw_tbl, w.before args s = true) (hgv : (Jvm.Cond.and given_1 narrow_1).before args s = true) : ∃ G : ck_G, G.2.2.2 = s.heap.size ∧ ck_K G s.heap s := by
  have hs := flat_of_before _ hgv
  have hin : ∀ q ∈ [(RX0, 8), (RX1, 2), (RX2, 7), (RX3, 5), (RX4, 8), (RX5, 26)], (Cond.instantiable q.1 q.2).before args s = true := fun q hq => hts _ (ck_inst_in q hq)
  obtain ⟨c0, iS0, hk0⟩ := u_known (C := RX0) (T := TX0) (N := 8) (n := 8) hts inX0 (hin _ (List.mem_of_getElem? (i := 0) rfl))
  obtain ⟨c1, iS1, hk1⟩ := u_known (C := RX1) (T := TX1) (N := 2) (n := 2) hts inX1 (hin _ (List.mem_of_getElem? (i := 1) rfl))
  obtain ⟨c2, iS2, hk2⟩ := u_known (C := RX2) (T := TX2) (N := 7) (n := 7) hts inX2 (hin _ (List.mem_of_getElem? (i := 2) rfl))
  obtain ⟨c3, iS3, hk3⟩ := u_known (C := RX3) (T := TX3) (N := 5) (n := 5) hts inX3 (hin _ (List.mem_of_getElem? (i := 3) rfl))
  obtain ⟨c4, iS4, hk4⟩ := u_known (C := RX4) (T := TX4) (N := 8) (n := 8) hts inX4 (hin _ (List.mem_of_getElem? (i := 4) rfl))
  obtain ⟨c5, iS5, hk5⟩ := u_known (C := RX5) (T := TX5) (N := 26) (n := 26) hts inX5 (hin _ (List.mem_of_getElem? (i := 5) rfl))
  obtain ⟨dC, dI, hKc⟩ : ∃ (dC : Nat → ClassId) (dI : Nat → Nat → Nat), ∀ (k : Nat) (q : vw_C), vwCl[k]? = some q → u_Kn s q.1 q.2.1 q.2.2 (dC k) (dI k) := by
    refine ⟨fun k => if k = 0 then c0 else if k = 1 then c1 else if k = 2 then c2 else if k = 3 then c3 else if k = 4 then c4 else c5, fun k => if k = 0 then iS0 else if k = 1 then iS1 else if k = 2 then iS2 else if k = 3 then iS3 else if k = 4 then iS4 else iS5, ?_⟩
    intro k q hq
    match k, hq with
    | 0, hq => cases hq; exact hk0
    | 1, hq => cases hq; exact hk1
    | 2, hq => cases hq; exact hk2
    | 3, hq => cases hq; exact hk3
    | 4, hq => cases hq; exact hk4
    | 5, hq => cases hq; exact hk5
    | k + 6, hq => simp [vwCl] at hq
  obtain ⟨t0, ht0⟩ := ck_arrC (ty := .int) (fun C h => by cases h) (hts _ (ck_some_in _ (List.mem_of_getElem? (i := 0) rfl)))
  obtain ⟨t1, ht1⟩ := ck_arrC (ty := .long) (fun C h => by cases h) (hts _ (ck_some_in _ (List.mem_of_getElem? (i := 1) rfl)))
  obtain ⟨t2, ht2⟩ := ck_arrO (C := RX0) (hts _ (ck_ao_in _ (List.mem_of_getElem? (i := 0) rfl)))
  obtain ⟨t3, ht3⟩ := ck_arrO (C := RX1) (hts _ (ck_ao_in _ (List.mem_of_getElem? (i := 1) rfl)))
  obtain ⟨t4, ht4⟩ := ck_arrO (C := RX2) (hts _ (ck_ao_in _ (List.mem_of_getElem? (i := 2) rfl)))
  obtain ⟨t5, ht5⟩ := ck_arrO (C := RX3) (hts _ (ck_ao_in _ (List.mem_of_getElem? (i := 3) rfl)))
  obtain ⟨kC, hcur, -⟩ := hk4.2
  obtain ⟨adr, hadr⟩ : ∃ adr : Nat → Nat, ∀ q ∈ ck_strs, vk_R RX4 q.1 q.2 (adr q.1) s := by
    refine ⟨fun k => Classical.epsilon (fun a => (Term.string RX4 k).eval args s none [] s = some (.ref a)), fun q hq => ?_⟩
    have h1 := hts _ (ck_strs_in q hq)
    obtain ⟨k, cf, i, a, -, -, -, -, -, h2⟩ := Cond.stringRef_spec hk4.2.1 h1
    exact vk_R.of h1 (Classical.epsilon_spec (p := fun a => (Term.string RX4 q.1).eval args s none [] s = some (.ref a)) ⟨a, h2⟩)
  refine ⟨((dC, dI), fun k => if k = 0 then t0 else if k = 1 then t1 else if k = 2 then t2 else if k = 3 then t3 else if k = 4 then t4 else t5, adr, s.heap.size), rfl, ⟨⟨hKc, fun k q hq => ?_⟩, hadr, ⟨va_tabs rfl rfl (hts _ (ck_some_in _ (List.mem_of_getElem? (i := 2) rfl))), va_tabs rfl rfl (hts _ (ck_some_in _ (List.mem_of_getElem? (i := 3) rfl))), va_tabs rfl rfl (hts _ (ck_some_in _ (List.mem_of_getElem? (i := 4) rfl)))⟩, ⟨fun E hE => va_tabs rfl rfl (hts _ (ck_exc_in E hE)), fun y hy => va_tabs rfl rfl (hts _ (ck_decl_in y hy))⟩, fun q hq => va_Nc.of (hs _ (ck_nc_in q hq)), fun C hC => va_AO.of (hts _ (ck_ao_in C hC))⟩, ?_, ?_⟩
  · match k, hq with
    | 0, hq => cases hq; exact ht0
    | 1, hq => cases hq; exact ht1
    | 2, hq => cases hq; exact ht2
    | 3, hq => cases hq; exact ht3
    | 4, hq => cases hq; exact ht4
    | 5, hq => cases hq; exact ht5
    | k + 6, hq => simp [ck_tys] at hq
  · exact vx_Zqof (hts _ (ck_some_in _ (List.mem_of_getElem? (i := 5) rfl))) (hts _ (ck_some_in _ (List.mem_of_getElem? (i := 7) rfl))) (hs _ (ck_st_in _ (List.mem_of_getElem? (i := 0) rfl))) (fun a ha => Nat.not_le.mpr ha)
  · exact vx_Zqof (hts _ (ck_some_in _ (List.mem_of_getElem? (i := 6) rfl))) (hts _ (ck_some_in _ (List.mem_of_getElem? (i := 7) rfl))) (hs _ (ck_st_in _ (List.mem_of_getElem? (i := 1) rfl))) (fun a ha => Nat.not_le.mpr ha)
theorem ck_J0 : ck_J ck_V0 0 0 0 := by
  refine ⟨⟨fun k h => absurd h (Nat.not_lt_zero k), fun k h => absurd h (Nat.not_lt_zero k), fun k h => absurd h (Nat.not_lt_zero k), fun k h => absurd h (Nat.not_lt_zero k), fun k h => absurd h (Nat.not_lt_zero k), fun k h => absurd h (Nat.not_lt_zero k), fun k h => absurd h (Nat.not_lt_zero k), fun k h => absurd h (Nat.not_lt_zero k), fun k h => absurd h (Nat.not_lt_zero k), fun k h => absurd h (Nat.not_lt_zero k), fun k h => absurd h (Nat.not_lt_zero k), fun k h => absurd h (Nat.not_lt_zero k), fun k h => absurd h (Nat.not_lt_zero k), fun k _ h => ⟨rfl, rfl, if_pos h, rfl⟩⟩, fun q hq => ?_, fun q hq => ?_⟩
  · have hz : ∀ i, 20 ≤ i → ck_V0 i = fun _ => 0 := fun i hi => by
      funext k
      unfold ck_V0
      rw [if_neg (by omega), if_neg (by omega), if_neg (by omega)]
    have hc : ck_cnt ck_V0 q = 0 := by unfold ck_cnt; rw [hz 28 (by decide)]; rfl
    rw [hc]
    unfold ck_oQ
    rw [hz 28 (by decide), hz 29 (by decide), hz 30 (by decide), hz (20 + q) (by omega), hz (24 + q) (by omega)]
    exact ⟨rfl, by decide, fun j k _ _ h => absurd rfl h, fun j k h => absurd h (Nat.not_lt_zero j), fun k h => absurd h (Nat.not_lt_zero k), fun j _ h => absurd rfl h, fun k h => absurd h (Nat.not_lt_zero k)⟩
  · exact ⟨⟨0, Nat.le_refl _, rfl⟩, Or.inl ⟨rfl, rfl, rfl⟩⟩
def ck_off : Nat → Nat
  | 1 => 1
  | 2 => 2
  | 3 => 3
  | 4 => 4
  | 5 => 5
  | 6 => 7
  | 7 => 9
  | 8 => 6
  | 9 => 8
  | 10 => 10
  | 11 => 11
  | 12 => 14
  | 13 => 17
  | 14 => 20
  | 15 => 12
  | 16 => 15
  | 17 => 18
  | 18 => 21
  | 19 => 13
  | 20 => 16
  | 21 => 19
  | 22 => 22
  | 0 => 0
  | n + 23 => n + 16
theorem ck_off_C (z : Nat) : ck_adC (fun i => z + ck_off i) (z + 1) := ⟨show z + 1 = z + 1 + 0 by omega, show z + 2 = z + 1 + 1 by omega, show z + 3 = z + 1 + 2 by omega, show z + 4 = z + 1 + 3 by omega, show z + 5 = z + 1 + 4 by omega, show z + 6 = z + 1 + 5 by omega, show z + 7 = z + 1 + 6 by omega, show z + 8 = z + 1 + 7 by omega, show z + 9 = z + 1 + 8 by omega, show z + 10 = z + 1 + 9 by omega, show z + 11 = z + 1 + 10 by omega, show z + 12 = z + 1 + 11 by omega, show z + 13 = z + 1 + 12 by omega, show z + 14 = z + 1 + 13 by omega, show z + 15 = z + 1 + 14 by omega, show z + 16 = z + 1 + 15 by omega, show z + 17 = z + 1 + 16 by omega, show z + 18 = z + 1 + 17 by omega, show z + 19 = z + 1 + 18 by omega, show z + 20 = z + 1 + 19 by omega, show z + 21 = z + 1 + 20 by omega, show z + 22 = z + 1 + 21 by omega⟩
theorem ck_off_M (z : Nat) : ck_adM (fun i => z + ck_off i) (z + 24) := fun i h1 h2 => by
  obtain ⟨j, rfl⟩ : ∃ j, i = j + 23 := ⟨i - 23, by omega⟩
  show z + (j + 16) = z + 24 + (j + 23 - 31)
  omega
