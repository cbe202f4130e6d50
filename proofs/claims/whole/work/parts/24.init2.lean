def ck_V0 : Nat → Nat → Int32 := fun i k => if i = 5 then (if k < 60 then -1 else 0) else if i = 13 then (if k = 0 then 5 else 0) else if i = 16 then 9999 else 0
def ck_L0 : Nat → Nat → Int64 := fun _ _ => 0
def ck_adC (ad : Nat → Nat) (z : Nat) : Prop := ad 1 = z + 0 ∧ ad 2 = z + 1 ∧ ad 3 = z + 2 ∧ ad 4 = z + 3 ∧ ad 5 = z + 4 ∧ ad 8 = z + 5 ∧ ad 6 = z + 6 ∧ ad 9 = z + 7 ∧ ad 7 = z + 8 ∧ ad 10 = z + 9 ∧ ad 11 = z + 10 ∧ ad 15 = z + 11 ∧ ad 19 = z + 12 ∧ ad 12 = z + 13 ∧ ad 16 = z + 14 ∧ ad 20 = z + 15 ∧ ad 13 = z + 16 ∧ ad 17 = z + 17 ∧ ad 21 = z + 18 ∧ ad 14 = z + 19 ∧ ad 18 = z + 20 ∧ ad 22 = z + 21
def ck_adM (ad : Nat → Nat) (z : Nat) : Prop := ∀ i, 31 ≤ i → i < 52 → ad i = z + (i - 31)
def ck_sU (F F1 : Nat → va_E) : Prop := ∀ i, 23 ≤ i → F1 i = F i
theorem ck_szs {a h h1 k : Nat} (e : h1 = h + k) {n : Nat} (e2 : h = a + n) : h1 = a + (n + k) := by omega
theorem ck_szle {a g n h : Nat} (e : g ≤ a) (e2 : h = a + n) : g ≤ h := by omega
theorem ck_sz1 {a h n : Nat} (e2 : h = a + n) : a + (n + 1) = h + 1 := by omega
theorem ck_all3 {P : Nat → Prop} (h0 : P 0) (h1 : P 1) (h2 : P 2) : ∀ k, k < 3 → P k := fun k hk => by
  rcases (show k = 0 ∨ k = 1 ∨ k = 2 by omega) with rfl | rfl | rfl <;> assumption
theorem ck_all4 {P : Nat → Prop} (h0 : P 0) (h1 : P 1) (h2 : P 2) (h3 : P 3) : ∀ k, k < 4 → P k := fun k hk => by
  rcases (show k = 0 ∨ k = 1 ∨ k = 2 ∨ k = 3 by omega) with rfl | rfl | rfl | rfl <;> assumption
theorem ck_all23 {P : Nat → Prop} (h0 : P 0) (h1 : P 1) (h2 : P 2) (h3 : P 3) (h4 : P 4) (h5 : P 5) (h6 : P 6) (h7 : P 7) (h8 : P 8) (h9 : P 9) (h10 : P 10) (h11 : P 11) (h12 : P 12) (h13 : P 13) (h14 : P 14) (h15 : P 15) (h16 : P 16) (h17 : P 17) (h18 : P 18) (h19 : P 19) (h20 : P 20) (h21 : P 21) (h22 : P 22) : ∀ i, i < 23 → P i := fun i hi => by
  rcases (show i = 0 ∨ i = 1 ∨ i = 2 ∨ i = 3 ∨ i = 4 ∨ i = 5 ∨ i = 6 ∨ i = 7 ∨ i = 8 ∨ i = 9 ∨ i = 10 ∨ i = 11 ∨ i = 12 ∨ i = 13 ∨ i = 14 ∨ i = 15 ∨ i = 16 ∨ i = 17 ∨ i = 18 ∨ i = 19 ∨ i = 20 ∨ i = 21 ∨ i = 22 by omega) with rfl | rfl | rfl | rfl | rfl | rfl | rfl | rfl | rfl | rfl | rfl | rfl | rfl | rfl | rfl | rfl | rfl | rfl | rfl | rfl | rfl | rfl | rfl
  · exact h0
  · exact h1
  · exact h2
  · exact h3
  · exact h4
  · exact h5
  · exact h6
  · exact h7
  · exact h8
  · exact h9
  · exact h10
  · exact h11
  · exact h12
  · exact h13
  · exact h14
  · exact h15
  · exact h16
  · exact h17
  · exact h18
  · exact h19
  · exact h20
  · exact h21
  · exact h22
theorem ck_all52 {P : Nat → Prop} (h30 : P 30) (h31 : P 31) (h32 : P 32) (h33 : P 33) (h34 : P 34) (h35 : P 35) (h36 : P 36) (h37 : P 37) (h38 : P 38) (h39 : P 39) (h40 : P 40) (h41 : P 41) (h42 : P 42) (h43 : P 43) (h44 : P 44) (h45 : P 45) (h46 : P 46) (h47 : P 47) (h48 : P 48) (h49 : P 49) (h50 : P 50) (h51 : P 51) : ∀ i, 30 ≤ i → i < 52 → P i := fun i h1 h2 => by
  rcases (show i = 30 ∨ i = 31 ∨ i = 32 ∨ i = 33 ∨ i = 34 ∨ i = 35 ∨ i = 36 ∨ i = 37 ∨ i = 38 ∨ i = 39 ∨ i = 40 ∨ i = 41 ∨ i = 42 ∨ i = 43 ∨ i = 44 ∨ i = 45 ∨ i = 46 ∨ i = 47 ∨ i = 48 ∨ i = 49 ∨ i = 50 ∨ i = 51 by omega) with rfl | rfl | rfl | rfl | rfl | rfl | rfl | rfl | rfl | rfl | rfl | rfl | rfl | rfl | rfl | rfl | rfl | rfl | rfl | rfl | rfl | rfl
  · exact h30
  · exact h31
  · exact h32
  · exact h33
  · exact h34
  · exact h35
  · exact h36
  · exact h37
  · exact h38
  · exact h39
  · exact h40
  · exact h41
  · exact h42
  · exact h43
  · exact h44
  · exact h45
  · exact h46
  · exact h47
  · exact h48
  · exact h49
  · exact h50
  · exact h51
theorem ck_neU {j k : Nat} (h : 23 ≤ j) (hk : k < 23) : j ≠ k := by omega
theorem ck_neM {j k : Nat} (h : j < 30 ∨ 52 ≤ j) (hk : 30 ≤ k ∧ k < 52) : j ≠ k := by omega
/-- the cells that live: N and those of the list -/
def ck_NL (N N1 : Nat → Prop) (l : List Nat) : Prop := ∀ i, N1 i → N i ∨ i ∈ l
theorem ck_NL.one {N N1 N2 : Nat → Prop} {l : List Nat} (h : ck_NL N N1 l) {j : Nat} (hN : ∀ i, N2 i → N1 i ∨ i = j) : ck_NL N N2 (j :: l) := fun i z => (hN i z).elim (fun z => (h i z).imp id (List.mem_cons_of_mem _)) (fun e => Or.inr (by rw [e]; exact List.mem_cons_self))
theorem ck_NL.two {N N1 N2 : Nat → Prop} {l : List Nat} (h : ck_NL N N1 l) {j k : Nat} (hN : ∀ i, N2 i → N1 i ∨ i = j ∨ i = k) : ck_NL N N2 (k :: j :: l) := fun i z => (hN i z).elim (fun z => (h i z).imp id (fun h => List.mem_cons_of_mem _ (List.mem_cons_of_mem _ h))) (fun e => Or.inr (e.elim (fun e => by rw [e]; exact List.mem_cons_of_mem _ List.mem_cons_self) (fun e => by rw [e]; exact List.mem_cons_self)))
theorem ck_NL.dead {N N1 : Nat → Prop} {l : List Nat} (h : ck_NL N N1 l) {i : Nat} (hn : ¬ N i) (hl : i ∉ l) : ¬ N1 i := fun z => (h i z).elim hn hl
set_option maxHeartbeats 4000000 in
set_option maxRecDepth 100000 in
theorem ct_X4_init (l : Launch) (G : ck_G) (H : Heap) (ad : Nat → Nat) (N : Nat → Prop) (F : Nat → va_E) (hW : ck_W G ad N F H) (hSz : G.2.2.2 ≤ H.size) (hN0 : N 0) (hno : ∀ i, 1 ≤ i → i < 23 → ¬ N i) (had : ck_adC ad H.size) (hF0 : F 0 = .inr (4, [.null, .null, .int 0, .int 0, .null, .int 0, .int 0, .null])) : Met l yX4_init wsX4_init ({ frames := 2, cells := 22, slots := 671, locals := 40 }) (ck_P G H [.ref (ad 0)]) (ck_Qv G (fun H1 => ∃ N1 F1, (∀ i, N i → N1 i) ∧ (∀ i, 23 ≤ i → N1 i → N i) ∧ ck_C G ad ck_V0 ck_L0 0 0 N1 F1 ∧ ck_sU F F1 ∧ ck_W G ad N1 F1 H1 ∧ H1.size = H.size + 22)) 22 671 (ck_A G) := by
  refine Met.ofW (cc := cX4_init) (maxL := 2) (ret := none) (by decide) rfl ?_
  intro p e s m args below meth c s₁ B hml hv
  obtain ⟨rfl, hH, hKK⟩ := hv
  subst hH
  have hx := B.exec
  have hb := B.bytes
  have hr := B.returns
  have hts := atoms_spec (ws := wsX4_init) B.pre
  have hown : s.vm.findClass RX4 = some m.cls := findClass_of_methodNamed B.named
  have hlocks := B.notSynchronized
  have hinit : meth.name = "<init>" := (name_of_methodNamed B.named B.method).1
  have hKK0 := hKK
  have hK := hKK.1.1
  have hS : va_S (ck_A G) s.heap s.heap [] := va_S.rf
  have hinX4 : ∀ w ∈ u_ws RX4 TX4 8, w ∈ wsX4_init := by decide +kernel
  have hinX3 : ∀ w ∈ u_ws RX3 TX3 5, w ∈ wsX4_init := by decide +kernel
  have hinX1 : ∀ w ∈ u_ws RX1 TX1 2, w ∈ wsX4_init := by decide +kernel
  have hl := lv_entry ([.ref (ad 0)]) (n := 2) (Nat.le_of_ble_eq_true rfl)
  rw [lg_entry_eq]
  generalize (lg_sl ([.ref (ad 0)]) ++ List.replicate (2 - (lg_sl ([.ref (ad 0)])).length) Slot.unset).toArray = ls at hl ⊢
  have hl : lv_has ls 2 [(0, .ref (ad 0))] := hl
  have hsm : ck_sU F F := fun _ _ => rfl
  have hNL : ck_NL N N [] := fun i h => Or.inl h
  have hsub : ∀ i, N i → N i := fun _ h => h
  obtain ⟨z0, hz0⟩ : ∃ z, z = s.heap.size := ⟨_, rfl⟩
  rw [← hz0] at had
  unfold ck_adC at had
  have hHs : s.heap.size = z0 + 0 := hz0.symm
  have hSz0 : G.2.2.2 ≤ z0 := by rw [hz0]; exact hSz
  refine lv_aload_n hx hb dX4_init_0 rfl (lv_at hl 0 rfl) ?_
  refine W.objInit hx hb hown (hts _ (List.mem_of_getElem? (i := 1) rfl)) (hts _ (List.mem_of_getElem? (i := 2) rfl)) (hts _ (List.mem_of_getElem? (i := 3) rfl)) rfl (hl.1.trans hml.symm) rfl dX4_init_1 (Nat.le_of_ble_eq_true rfl) (Nat.le_of_ble_eq_true rfl) ?_
  refine W.eq (g2 := F0 m 4 ls []) rfl ?_
  refine lv_aload_n hx hb dX4_init_4 rfl (lv_at hl 0 rfl) ?_
  refine lv_iconst (v := 3) hx hb dX4_init_5 (by decide) ?_
  refine ck_newQ hx hb hown (hts _ (List.mem_of_getElem? (i := 4) rfl)) (hKK.1.2.2.2.2.2 RX3 (by decide)) hK hW hS hSz 1 ((hNL.dead (hno 1 (by decide) (by decide)) (by decide))) (((had.1).trans hHs.symm)) 5 rfl 3 (by decide) (by decide) (by decide) (Nat.le_of_ble_eq_true rfl) (Nat.le_of_ble_eq_true rfl) dX4_init_6 (fun N_6 F_6 H hNw6 hS hz6 => ?_)
  obtain ⟨hNs6, hNo6, hNi6, hFe6, hFo6, hW⟩ := hNw6
  have hFc0_6 := (hFo6 0 (by decide)).trans hF0
  have hNc0_6 := hNs6 _ hN0
  have hHs : H.size = z0 + 1 := ck_szs hz6 hHs
  clear hz6
  have hSz : G.2.2.2 ≤ H.size := ck_szle hSz0 hHs
  have hsm : ck_sU F F_6 := fun j hj => (hFo6 j (ck_neU hj (by decide))).trans (hsm j hj)
  have hNL := hNL.one hNo6
  have hsub : ∀ i, N i → N_6 i := fun i h => hNs6 i (hsub i h)
  have hKK := hKK0.keep hS.2.1
  refine ck_putF (v := .ref (ad 1)) (ty := (tyX4 0)) hx hb hts hinX4 tyX4 tyX4_ok nmX4 hown hK hW hS hNc0_6 hFc0_6 rfl 0 (by decide) (hts _ (List.mem_of_getElem? (i := 5) rfl)) rfl rfl hinit rfl (by decide +kernel) rfl rfl (Nat.le_of_ble_eq_true rfl) dX4_init_9 (fun H locs hW hS hz9 => ?_)
  obtain ⟨F_9, hFe9, hFo9, hW⟩ := ck_name hW
  have hHs : H.size = z0 + 1 := hz9.trans hHs
  clear hz9
  have hSz : G.2.2.2 ≤ H.size := ck_szle hSz0 hHs
  have hFc1_9 := (hFo9 1 (by decide)).trans hFe6
  have hsm : ck_sU F F_9 := fun j hj => (hFo9 j (ck_neU hj (by decide))).trans (hsm j hj)
  have hKK := hKK0.keep hS.2.1
  refine lv_aload_n hx hb dX4_init_12 rfl (lv_at hl 0 rfl) ?_
  refine lv_bipush (v := 60) hx hb dX4_init_13 (by decide) ?_
  refine ck_newQ hx hb hown (hts _ (List.mem_of_getElem? (i := 6) rfl)) (hKK.1.2.2.2.2.2 RX0 (by decide)) hK hW hS hSz 2 ((hNL.dead (hno 2 (by decide) (by decide)) (by decide))) (((had.2.1).trans hHs.symm)) 2 rfl 60 (by decide) (by decide) (by decide) (Nat.le_of_ble_eq_true rfl) (Nat.le_of_ble_eq_true rfl) dX4_init_15 (fun N_15 F_15 H hNw15 hS hz15 => ?_)
  obtain ⟨hNs15, hNo15, hNi15, hFe15, hFo15, hW⟩ := hNw15
  have hFc0_15 := (hFo15 0 (by decide)).trans hFe9
  have hNc0_15 := hNs15 _ hNc0_6
  have hFc1_15 := (hFo15 1 (by decide)).trans hFc1_9
  have hNc1_15 := hNs15 _ hNi6
  have hHs : H.size = z0 + 2 := ck_szs hz15 hHs
  clear hz15
  have hSz : G.2.2.2 ≤ H.size := ck_szle hSz0 hHs
  have hsm : ck_sU F F_15 := fun j hj => (hFo15 j (ck_neU hj (by decide))).trans (hsm j hj)
  have hNL := hNL.one hNo15
  have hsub : ∀ i, N i → N_15 i := fun i h => hNs15 i (hsub i h)
  have hKK := hKK0.keep hS.2.1
  refine ck_pc (q := 18) rfl ?_
  refine ck_putF (v := .ref (ad 2)) (ty := (tyX4 1)) hx hb hts hinX4 tyX4 tyX4_ok nmX4 hown hK hW hS hNc0_15 hFc0_15 rfl 1 (by decide) (hts _ (List.mem_of_getElem? (i := 7) rfl)) rfl rfl hinit rfl (by decide +kernel) rfl rfl (Nat.le_of_ble_eq_true rfl) dX4_init_18 (fun H locs hW hS hz18 => ?_)
  obtain ⟨F_18, hFe18, hFo18, hW⟩ := ck_name hW
  have hHs : H.size = z0 + 2 := hz18.trans hHs
  clear hz18
  have hSz : G.2.2.2 ≤ H.size := ck_szle hSz0 hHs
  have hFc1_18 := (hFo18 1 (by decide)).trans hFc1_15
  have hFc2_18 := (hFo18 2 (by decide)).trans hFe15
  have hsm : ck_sU F F_18 := fun j hj => (hFo18 j (ck_neU hj (by decide))).trans (hsm j hj)
  have hKK := hKK0.keep hS.2.1
  refine lv_aload_n hx hb dX4_init_21 rfl (lv_at hl 0 rfl) ?_
  refine lv_iconst (v := 5) hx hb dX4_init_22 (by decide) ?_
  refine ck_put (v := .int 5) (ty := .int) hx hb hts hinX4 tyX4 tyX4_ok nmX4 hown hK hW hS hNc0_15 hFe18 rfl 3 (by decide) (hts _ (List.mem_of_getElem? (i := 8) rfl)) rfl rfl (by decide +kernel) rfl rfl (Nat.le_of_ble_eq_true rfl) dX4_init_23 (fun H locs hW hS hz23 => ?_)
  obtain ⟨F_23, hFe23, hFo23, hW⟩ := ck_name hW
  have hHs : H.size = z0 + 2 := hz23.trans hHs
  clear hz23
  have hSz : G.2.2.2 ≤ H.size := ck_szle hSz0 hHs
  have hFc1_23 := (hFo23 1 (by decide)).trans hFc1_18
  have hFc2_23 := (hFo23 2 (by decide)).trans hFc2_18
  have hsm : ck_sU F F_23 := fun j hj => (hFo23 j (ck_neU hj (by decide))).trans (hsm j hj)
  have hKK := hKK0.keep hS.2.1
  refine lv_aload_n hx hb dX4_init_26 rfl (lv_at hl 0 rfl) ?_
  refine lv_bipush (v := 30) hx hb dX4_init_27 (by decide) ?_
  refine ck_newQ hx hb hown (hts _ (List.mem_of_getElem? (i := 9) rfl)) (hKK.1.2.2.2.2.2 RX2 (by decide)) hK hW hS hSz 3 ((hNL.dead (hno 3 (by decide) (by decide)) (by decide))) (((had.2.2.1).trans hHs.symm)) 4 rfl 30 (by decide) (by decide) (by decide) (Nat.le_of_ble_eq_true rfl) (Nat.le_of_ble_eq_true rfl) dX4_init_29 (fun N_29 F_29 H hNw29 hS hz29 => ?_)
  obtain ⟨hNs29, hNo29, hNi29, hFe29, hFo29, hW⟩ := hNw29
  have hFc0_29 := (hFo29 0 (by decide)).trans hFe23
  have hNc0_29 := hNs29 _ hNc0_15
  have hFc1_29 := (hFo29 1 (by decide)).trans hFc1_23
  have hNc1_29 := hNs29 _ hNc1_15
  have hFc2_29 := (hFo29 2 (by decide)).trans hFc2_23
  have hNc2_29 := hNs29 _ hNi15
  have hHs : H.size = z0 + 3 := ck_szs hz29 hHs
  clear hz29
  have hSz : G.2.2.2 ≤ H.size := ck_szle hSz0 hHs
  have hsm : ck_sU F F_29 := fun j hj => (hFo29 j (ck_neU hj (by decide))).trans (hsm j hj)
  have hNL := hNL.one hNo29
  have hsub : ∀ i, N i → N_29 i := fun i h => hNs29 i (hsub i h)
  have hKK := hKK0.keep hS.2.1
  refine ck_putF (v := .ref (ad 3)) (ty := (tyX4 4)) hx hb hts hinX4 tyX4 tyX4_ok nmX4 hown hK hW hS hNc0_29 hFc0_29 rfl 4 (by decide) (hts _ (List.mem_of_getElem? (i := 10) rfl)) rfl rfl hinit rfl (by decide +kernel) rfl rfl (Nat.le_of_ble_eq_true rfl) dX4_init_32 (fun H locs hW hS hz32 => ?_)
  obtain ⟨F_32, hFe32, hFo32, hW⟩ := ck_name hW
  have hHs : H.size = z0 + 3 := hz32.trans hHs
  clear hz32
  have hSz : G.2.2.2 ≤ H.size := ck_szle hSz0 hHs
  have hFc1_32 := (hFo32 1 (by decide)).trans hFc1_29
  have hFc2_32 := (hFo32 2 (by decide)).trans hFc2_29
  have hFc3_32 := (hFo32 3 (by decide)).trans hFe29
  have hsm : ck_sU F F_32 := fun j hj => (hFo32 j (ck_neU hj (by decide))).trans (hsm j hj)
  have hKK := hKK0.keep hS.2.1
  refine lv_aload_n hx hb dX4_init_35 rfl (lv_at hl 0 rfl) ?_
  refine lv_iconst (v := 4) hx hb dX4_init_36 (by decide) ?_
  refine ck_pc (q := 37) rfl ?_
  refine ck_newQ hx hb hown (hts _ (List.mem_of_getElem? (i := 11) rfl)) (hKK.1.2.2.2.2.2 RX1 (by decide)) hK hW hS hSz 4 ((hNL.dead (hno 4 (by decide) (by decide)) (by decide))) (((had.2.2.2.1).trans hHs.symm)) 3 rfl 4 (by decide) (by decide) (by decide) (Nat.le_of_ble_eq_true rfl) (Nat.le_of_ble_eq_true rfl) dX4_init_37 (fun N_37 F_37 H hNw37 hS hz37 => ?_)
  obtain ⟨hNs37, hNo37, hNi37, hFe37, hFo37, hW⟩ := hNw37
  have hFc0_37 := (hFo37 0 (by decide)).trans hFe32
  have hNc0_37 := hNs37 _ hNc0_29
  have hFc1_37 := (hFo37 1 (by decide)).trans hFc1_32
  have hNc1_37 := hNs37 _ hNc1_29
  have hFc2_37 := (hFo37 2 (by decide)).trans hFc2_32
  have hNc2_37 := hNs37 _ hNc2_29
  have hFc3_37 := (hFo37 3 (by decide)).trans hFc3_32
  have hNc3_37 := hNs37 _ hNi29
  have hHs : H.size = z0 + 4 := ck_szs hz37 hHs
  clear hz37
  have hSz : G.2.2.2 ≤ H.size := ck_szle hSz0 hHs
  have hsm : ck_sU F F_37 := fun j hj => (hFo37 j (ck_neU hj (by decide))).trans (hsm j hj)
  have hNL := hNL.one hNo37
  have hsub : ∀ i, N i → N_37 i := fun i h => hNs37 i (hsub i h)
  have hKK := hKK0.keep hS.2.1
  refine ck_putF (v := .ref (ad 4)) (ty := (tyX4 7)) hx hb hts hinX4 tyX4 tyX4_ok nmX4 hown hK hW hS hNc0_37 hFc0_37 rfl 7 (by decide) (hts _ (List.mem_of_getElem? (i := 12) rfl)) rfl rfl hinit rfl (by decide +kernel) rfl rfl (Nat.le_of_ble_eq_true rfl) dX4_init_40 (fun H locs hW hS hz40 => ?_)
  obtain ⟨F_40, hFe40, hFo40, hW⟩ := ck_name hW
  have hHs : H.size = z0 + 4 := hz40.trans hHs
  clear hz40
  have hSz : G.2.2.2 ≤ H.size := ck_szle hSz0 hHs
  have hFc1_40 := (hFo40 1 (by decide)).trans hFc1_37
  have hFc2_40 := (hFo40 2 (by decide)).trans hFc2_37
  have hFc3_40 := (hFo40 3 (by decide)).trans hFc3_37
  have hFc4_40 := (hFo40 4 (by decide)).trans hFe37
  have hsm : ck_sU F F_40 := fun j hj => (hFo40 j (ck_neU hj (by decide))).trans (hsm j hj)
  have hKK := hKK0.keep hS.2.1
  refine lv_iconst (v := 0) hx hb dX4_init_43 (by decide) ?_
  refine lv_istore_n (lv' := [(1, .int 0), (0, .ref (ad 0))]) hx hb dX4_init_44 rfl hl (by decide) rfl (fun ls hl => ?_)
  refine lv_iload_n hx hb dX4_init_45 rfl (lv_at hl 0 rfl) ?_
  refine lv_aload_n hx hb dX4_init_46 rfl (lv_at hl 1 rfl) ?_
  refine ck_get (v := .ref (ad 1)) hx hb hts hinX4 hown hK hW hNc0_37 hFe40 rfl 0 (by decide) (hts _ (List.mem_of_getElem? (i := 5) rfl)) rfl rfl dX4_init_47 ?_
  refine ck_alen (v := 3) hx hb hK hW hNc1_37 hFc1_40 5 rfl rfl dX4_init_50 ?_
  refine lv_icmp_ge (tgt := 73) hx hb dX4_init_51 (by decide) (fun c_51 => absurd c_51 (by decide)) (fun _ => ?_)
  refine lv_aload_n hx hb dX4_init_54 rfl (lv_at hl 1 rfl) ?_
  refine ck_pc (q := 55) rfl ?_
  refine ck_get (v := .ref (ad 1)) hx hb hts hinX4 hown hK hW hNc0_37 hFe40 rfl 0 (by decide) (hts _ (List.mem_of_getElem? (i := 5) rfl)) rfl rfl dX4_init_55 ?_
  refine lv_iload_n hx hb dX4_init_58 rfl (lv_at hl 0 rfl) ?_
  refine ck_newO (ci := 3) hx hb hts hinX3 tyX3 tyX3_ok hown (hts _ (List.mem_of_getElem? (i := 4) rfl)) (hts _ (List.mem_of_getElem? (i := 13) rfl)) (hts _ (List.mem_of_getElem? (i := 14) rfl)) hK hW hS hSz 5 ((hNL.dead (hno 5 (by decide) (by decide)) (by decide))) (((had.2.2.2.2.1).trans hHs.symm)) rfl [.null, .int 0, .int 0, .int 0, .int 0] (fun j hj => by rcases (show j = 0 ∨ j = 1 ∨ j = 2 ∨ j = 3 ∨ j = 4 by omega) with rfl | rfl | rfl | rfl | rfl <;> rfl) (Nat.le_of_ble_eq_true rfl) (Nat.le_of_ble_eq_true rfl) dX4_init_59 (fun N_59 F_59 H hNw59 hS hz59 => ?_)
  obtain ⟨hNs59, hNo59, hNi59, hFe59, hFo59, hW⟩ := hNw59
  have hFc0_59 := (hFo59 0 (by decide)).trans hFe40
  have hNc0_59 := hNs59 _ hNc0_37
  have hFc1_59 := (hFo59 1 (by decide)).trans hFc1_40
  have hNc1_59 := hNs59 _ hNc1_37
  have hFc2_59 := (hFo59 2 (by decide)).trans hFc2_40
  have hNc2_59 := hNs59 _ hNc2_37
  have hFc3_59 := (hFo59 3 (by decide)).trans hFc3_40
  have hNc3_59 := hNs59 _ hNc3_37
  have hFc4_59 := (hFo59 4 (by decide)).trans hFc4_40
  have hNc4_59 := hNs59 _ hNi37
  have hHs : H.size = z0 + 5 := ck_szs hz59 hHs
  clear hz59
  have hSz : G.2.2.2 ≤ H.size := ck_szle hSz0 hHs
  have hsm : ck_sU F F_59 := fun j hj => (hFo59 j (ck_neU hj (by decide))).trans (hsm j hj)
  have hNL := hNL.one hNo59
  have hsub : ∀ i, N i → N_59 i := fun i h => hNs59 i (hsub i h)
  have hKK := hKK0.keep hS.2.1
  refine lv_dup hx hb dX4_init_62 rfl ?_
  refine ck_cJn (As := []) (rest := [.ref (ad 5), .int 0, .ref (ad 1)]) ⟨hx, hb, hml, hown, hts⟩ hKK (ct_X3_init l G H ad N_59 F_59 hW hSz 5 8 (by decide) hNi59 (hNL.dead (hno 8 (by decide) (by decide)) (by decide)) ((had.2.2.2.2.2.1).trans hHs.symm) hFe59) ⟨va_cnB 0 hts gX4_init_X3_init_n37 rfl rfl rfl hKK.1.2.2.1.1 (hts _ (List.mem_of_getElem? (i := 14) rfl)) (by decide +kernel) ⟨Nat.le_of_ble_eq_true rfl, Nat.le_of_ble_eq_true rfl⟩, rfl, (hts _ (List.mem_of_getElem? (i := 17) rfl))⟩ rfl hl rfl (Nat.le_of_ble_eq_true rfl) dX4_init_63 ⟨Nat.le_of_ble_eq_true rfl, Nat.le_of_ble_eq_true rfl⟩ hS (fun H locs h_63 hz_63 hS => ?_)
  have hKK := hKK0.keep hS.2.1
  obtain ⟨N_63, F_63, hNs63, hNo63, hNj63, hFi63, hFj63, hFo63, hW, hsz63⟩ := h_63
  have hFc0_63 := (hFo63 0 (by decide) (by decide)).trans hFc0_59
  have hNc0_63 := hNs63 _ hNc0_59
  have hFc1_63 := (hFo63 1 (by decide) (by decide)).trans hFc1_59
  have hNc1_63 := hNs63 _ hNc1_59
  have hFc2_63 := (hFo63 2 (by decide) (by decide)).trans hFc2_59
  have hNc2_63 := hNs63 _ hNc2_59
  have hFc3_63 := (hFo63 3 (by decide) (by decide)).trans hFc3_59
  have hNc3_63 := hNs63 _ hNc3_59
  have hFc4_63 := (hFo63 4 (by decide) (by decide)).trans hFc4_59
  have hNc4_63 := hNs63 _ hNc4_59
  have hNc5_63 := hNs63 _ hNi59
  have hFc5_63 := hFi63
  have hNc8_63 := hNj63
  have hFc8_63 := hFj63
  have hHs : H.size = z0 + 6 := ck_szs hsz63 hHs
  clear hsz63
  have hSz : G.2.2.2 ≤ H.size := ck_szle hSz0 hHs
  have hNL := hNL.one hNo63
  have hsub : ∀ i, N i → N_63 i := fun i h => hNs63 i (hsub i h)
  have hsm : ck_sU F F_63 := fun j hj => (hFo63 j (ck_neU hj (by decide)) (ck_neU hj (by decide))).trans (hsm j hj)
  refine ck_aast (r := (RX3, TX3, 5)) hx hb hK hW hS hNc1_63 hFc1_63 5 rfl 0 (by decide) (by decide) (by decide) hNc5_63 hFc5_63 rfl dX4_init_66 (fun H locs hW hS hz66 => ?_)
  obtain ⟨F_66, hFe66, hFo66, hW⟩ := ck_name hW
  have hHs : H.size = z0 + 6 := hz66.trans hHs
  clear hz66
  have hSz : G.2.2.2 ≤ H.size := ck_szle hSz0 hHs
  have hFc0_66 := (hFo66 0 (by decide)).trans hFc0_63
  have hFc2_66 := (hFo66 2 (by decide)).trans hFc2_63
  have hFc3_66 := (hFo66 3 (by decide)).trans hFc3_63
  have hFc4_66 := (hFo66 4 (by decide)).trans hFc4_63
  have hFc5_66 := (hFo66 5 (by decide)).trans hFc5_63
  have hFc8_66 := (hFo66 8 (by decide)).trans hFc8_63
  have hsm : ck_sU F F_66 := fun j hj => (hFo66 j (ck_neU hj (by decide))).trans (hsm j hj)
  have hKK := hKK0.keep hS.2.1
  refine lv_iinc (v := 1) (lv' := [(1, .int (1)), (0, .ref (ad 0))]) hx hb dX4_init_67 hl (k := 0) rfl (by decide) (by decide) rfl (fun ls hl => ?_)
  refine lv_goto (tgt := 45) hx hb dX4_init_70 (by decide) ?_
  refine lv_iload_n hx hb dX4_init_45 rfl (lv_at hl 0 rfl) ?_
  refine lv_aload_n hx hb dX4_init_46 rfl (lv_at hl 1 rfl) ?_
  refine ck_pc (q := 47) rfl ?_
  refine ck_get (v := .ref (ad 1)) hx hb hts hinX4 hown hK hW hNc0_63 hFc0_66 rfl 0 (by decide) (hts _ (List.mem_of_getElem? (i := 5) rfl)) rfl rfl dX4_init_47 ?_
  refine ck_alen (v := 3) hx hb hK hW hNc1_63 hFe66 5 rfl rfl dX4_init_50 ?_
  refine lv_icmp_ge (tgt := 73) hx hb dX4_init_51 (by decide) (fun c_51 => absurd c_51 (by decide)) (fun _ => ?_)
  refine lv_aload_n hx hb dX4_init_54 rfl (lv_at hl 1 rfl) ?_
  refine ck_get (v := .ref (ad 1)) hx hb hts hinX4 hown hK hW hNc0_63 hFc0_66 rfl 0 (by decide) (hts _ (List.mem_of_getElem? (i := 5) rfl)) rfl rfl dX4_init_55 ?_
  refine lv_iload_n hx hb dX4_init_58 rfl (lv_at hl 0 rfl) ?_
  refine ck_newO (ci := 3) hx hb hts hinX3 tyX3 tyX3_ok hown (hts _ (List.mem_of_getElem? (i := 4) rfl)) (hts _ (List.mem_of_getElem? (i := 13) rfl)) (hts _ (List.mem_of_getElem? (i := 14) rfl)) hK hW hS hSz 6 ((hNL.dead (hno 6 (by decide) (by decide)) (by decide))) (((had.2.2.2.2.2.2.1).trans hHs.symm)) rfl [.null, .int 0, .int 0, .int 0, .int 0] (fun j hj => by rcases (show j = 0 ∨ j = 1 ∨ j = 2 ∨ j = 3 ∨ j = 4 by omega) with rfl | rfl | rfl | rfl | rfl <;> rfl) (Nat.le_of_ble_eq_true rfl) (Nat.le_of_ble_eq_true rfl) dX4_init_59 (fun N_59 F_59 H hNw59 hS hz59 => ?_)
  obtain ⟨hNs59, hNo59, hNi59, hFe59, hFo59, hW⟩ := hNw59
  have hFc0_59 := (hFo59 0 (by decide)).trans hFc0_66
  have hNc0_59 := hNs59 _ hNc0_63
  have hFc1_59 := (hFo59 1 (by decide)).trans hFe66
  have hNc1_59 := hNs59 _ hNc1_63
  have hFc2_59 := (hFo59 2 (by decide)).trans hFc2_66
  have hNc2_59 := hNs59 _ hNc2_63
  have hFc3_59 := (hFo59 3 (by decide)).trans hFc3_66
  have hNc3_59 := hNs59 _ hNc3_63
  have hFc4_59 := (hFo59 4 (by decide)).trans hFc4_66
  have hNc4_59 := hNs59 _ hNc4_63
  have hFc5_59 := (hFo59 5 (by decide)).trans hFc5_66
  have hNc5_59 := hNs59 _ hNc5_63
  have hFc8_59 := (hFo59 8 (by decide)).trans hFc8_66
  have hNc8_59 := hNs59 _ hNc8_63
  have hHs : H.size = z0 + 7 := ck_szs hz59 hHs
  clear hz59
  have hSz : G.2.2.2 ≤ H.size := ck_szle hSz0 hHs
  have hsm : ck_sU F F_59 := fun j hj => (hFo59 j (ck_neU hj (by decide))).trans (hsm j hj)
  have hNL := hNL.one hNo59
  have hsub : ∀ i, N i → N_59 i := fun i h => hNs59 i (hsub i h)
  have hKK := hKK0.keep hS.2.1
  refine lv_dup hx hb dX4_init_62 rfl ?_
  refine ck_cJn (As := []) (rest := [.ref (ad 6), .int (1), .ref (ad 1)]) ⟨hx, hb, hml, hown, hts⟩ hKK (ct_X3_init l G H ad N_59 F_59 hW hSz 6 9 (by decide) hNi59 (hNL.dead (hno 9 (by decide) (by decide)) (by decide)) ((had.2.2.2.2.2.2.2.1).trans hHs.symm) hFe59) ⟨va_cnB 0 hts gX4_init_X3_init_n37 rfl rfl rfl hKK.1.2.2.1.1 (hts _ (List.mem_of_getElem? (i := 14) rfl)) (by decide +kernel) ⟨Nat.le_of_ble_eq_true rfl, Nat.le_of_ble_eq_true rfl⟩, rfl, (hts _ (List.mem_of_getElem? (i := 17) rfl))⟩ rfl hl rfl (Nat.le_of_ble_eq_true rfl) dX4_init_63 ⟨Nat.le_of_ble_eq_true rfl, Nat.le_of_ble_eq_true rfl⟩ hS (fun H locs h_63 hz_63 hS => ?_)
  have hKK := hKK0.keep hS.2.1
  obtain ⟨N_63, F_63, hNs63, hNo63, hNj63, hFi63, hFj63, hFo63, hW, hsz63⟩ := h_63
  have hFc0_63 := (hFo63 0 (by decide) (by decide)).trans hFc0_59
  have hNc0_63 := hNs63 _ hNc0_59
  have hFc1_63 := (hFo63 1 (by decide) (by decide)).trans hFc1_59
  have hNc1_63 := hNs63 _ hNc1_59
  have hFc2_63 := (hFo63 2 (by decide) (by decide)).trans hFc2_59
  have hNc2_63 := hNs63 _ hNc2_59
  have hFc3_63 := (hFo63 3 (by decide) (by decide)).trans hFc3_59
  have hNc3_63 := hNs63 _ hNc3_59
  have hFc4_63 := (hFo63 4 (by decide) (by decide)).trans hFc4_59
  have hNc4_63 := hNs63 _ hNc4_59
  have hFc5_63 := (hFo63 5 (by decide) (by decide)).trans hFc5_59
  have hNc5_63 := hNs63 _ hNc5_59
  have hFc8_63 := (hFo63 8 (by decide) (by decide)).trans hFc8_59
  have hNc8_63 := hNs63 _ hNc8_59
  have hNc6_63 := hNs63 _ hNi59
  have hFc6_63 := hFi63
  have hNc9_63 := hNj63
  have hFc9_63 := hFj63
  have hHs : H.size = z0 + 8 := ck_szs hsz63 hHs
  clear hsz63
  have hSz : G.2.2.2 ≤ H.size := ck_szle hSz0 hHs
  have hNL := hNL.one hNo63
  have hsub : ∀ i, N i → N_63 i := fun i h => hNs63 i (hsub i h)
  have hsm : ck_sU F F_63 := fun j hj => (hFo63 j (ck_neU hj (by decide)) (ck_neU hj (by decide))).trans (hsm j hj)
  refine ck_aast (r := (RX3, TX3, 5)) hx hb hK hW hS hNc1_63 hFc1_63 5 rfl 1 (by decide) (by decide) (by decide) hNc6_63 hFc6_63 rfl dX4_init_66 (fun H locs hW hS hz66 => ?_)
  obtain ⟨F_66, hFe66, hFo66, hW⟩ := ck_name hW
  have hHs : H.size = z0 + 8 := hz66.trans hHs
  clear hz66
  have hSz : G.2.2.2 ≤ H.size := ck_szle hSz0 hHs
  have hFc0_66 := (hFo66 0 (by decide)).trans hFc0_63
  have hFc2_66 := (hFo66 2 (by decide)).trans hFc2_63
  have hFc3_66 := (hFo66 3 (by decide)).trans hFc3_63
  have hFc4_66 := (hFo66 4 (by decide)).trans hFc4_63
  have hFc5_66 := (hFo66 5 (by decide)).trans hFc5_63
  have hFc8_66 := (hFo66 8 (by decide)).trans hFc8_63
  have hFc6_66 := (hFo66 6 (by decide)).trans hFc6_63
  have hFc9_66 := (hFo66 9 (by decide)).trans hFc9_63
  have hsm : ck_sU F F_66 := fun j hj => (hFo66 j (ck_neU hj (by decide))).trans (hsm j hj)
  have hKK := hKK0.keep hS.2.1
  refine ck_pc (q := 67) rfl ?_
  refine lv_iinc (v := 2) (lv' := [(1, .int (2)), (0, .ref (ad 0))]) hx hb dX4_init_67 hl (k := 0) rfl (by decide) (by decide) rfl (fun ls hl => ?_)
  refine lv_goto (tgt := 45) hx hb dX4_init_70 (by decide) ?_
  refine lv_iload_n hx hb dX4_init_45 rfl (lv_at hl 0 rfl) ?_
  refine lv_aload_n hx hb dX4_init_46 rfl (lv_at hl 1 rfl) ?_
  refine ck_get (v := .ref (ad 1)) hx hb hts hinX4 hown hK hW hNc0_63 hFc0_66 rfl 0 (by decide) (hts _ (List.mem_of_getElem? (i := 5) rfl)) rfl rfl dX4_init_47 ?_
  refine ck_alen (v := 3) hx hb hK hW hNc1_63 hFe66 5 rfl rfl dX4_init_50 ?_
  refine lv_icmp_ge (tgt := 73) hx hb dX4_init_51 (by decide) (fun c_51 => absurd c_51 (by decide)) (fun _ => ?_)
  refine lv_aload_n hx hb dX4_init_54 rfl (lv_at hl 1 rfl) ?_
  refine ck_get (v := .ref (ad 1)) hx hb hts hinX4 hown hK hW hNc0_63 hFc0_66 rfl 0 (by decide) (hts _ (List.mem_of_getElem? (i := 5) rfl)) rfl rfl dX4_init_55 ?_
  refine lv_iload_n hx hb dX4_init_58 rfl (lv_at hl 0 rfl) ?_
  refine ck_pc (q := 59) rfl ?_
  refine ck_newO (ci := 3) hx hb hts hinX3 tyX3 tyX3_ok hown (hts _ (List.mem_of_getElem? (i := 4) rfl)) (hts _ (List.mem_of_getElem? (i := 13) rfl)) (hts _ (List.mem_of_getElem? (i := 14) rfl)) hK hW hS hSz 7 ((hNL.dead (hno 7 (by decide) (by decide)) (by decide))) (((had.2.2.2.2.2.2.2.2.1).trans hHs.symm)) rfl [.null, .int 0, .int 0, .int 0, .int 0] (fun j hj => by rcases (show j = 0 ∨ j = 1 ∨ j = 2 ∨ j = 3 ∨ j = 4 by omega) with rfl | rfl | rfl | rfl | rfl <;> rfl) (Nat.le_of_ble_eq_true rfl) (Nat.le_of_ble_eq_true rfl) dX4_init_59 (fun N_59 F_59 H hNw59 hS hz59 => ?_)
  obtain ⟨hNs59, hNo59, hNi59, hFe59, hFo59, hW⟩ := hNw59
  have hFc0_59 := (hFo59 0 (by decide)).trans hFc0_66
  have hNc0_59 := hNs59 _ hNc0_63
  have hFc1_59 := (hFo59 1 (by decide)).trans hFe66
  have hNc1_59 := hNs59 _ hNc1_63
  have hFc2_59 := (hFo59 2 (by decide)).trans hFc2_66
  have hNc2_59 := hNs59 _ hNc2_63
  have hFc3_59 := (hFo59 3 (by decide)).trans hFc3_66
  have hNc3_59 := hNs59 _ hNc3_63
  have hFc4_59 := (hFo59 4 (by decide)).trans hFc4_66
  have hNc4_59 := hNs59 _ hNc4_63
  have hFc5_59 := (hFo59 5 (by decide)).trans hFc5_66
  have hNc5_59 := hNs59 _ hNc5_63
  have hFc8_59 := (hFo59 8 (by decide)).trans hFc8_66
  have hNc8_59 := hNs59 _ hNc8_63
  have hFc6_59 := (hFo59 6 (by decide)).trans hFc6_66
  have hNc6_59 := hNs59 _ hNc6_63
  have hFc9_59 := (hFo59 9 (by decide)).trans hFc9_66
  have hNc9_59 := hNs59 _ hNc9_63
  have hHs : H.size = z0 + 9 := ck_szs hz59 hHs
  clear hz59
  have hSz : G.2.2.2 ≤ H.size := ck_szle hSz0 hHs
  have hsm : ck_sU F F_59 := fun j hj => (hFo59 j (ck_neU hj (by decide))).trans (hsm j hj)
  have hNL := hNL.one hNo59
  have hsub : ∀ i, N i → N_59 i := fun i h => hNs59 i (hsub i h)
  have hKK := hKK0.keep hS.2.1
  refine lv_dup hx hb dX4_init_62 rfl ?_
  refine ck_cJn (As := []) (rest := [.ref (ad 7), .int (2), .ref (ad 1)]) ⟨hx, hb, hml, hown, hts⟩ hKK (ct_X3_init l G H ad N_59 F_59 hW hSz 7 10 (by decide) hNi59 (hNL.dead (hno 10 (by decide) (by decide)) (by decide)) ((had.2.2.2.2.2.2.2.2.2.1).trans hHs.symm) hFe59) ⟨va_cnB 0 hts gX4_init_X3_init_n37 rfl rfl rfl hKK.1.2.2.1.1 (hts _ (List.mem_of_getElem? (i := 14) rfl)) (by decide +kernel) ⟨Nat.le_of_ble_eq_true rfl, Nat.le_of_ble_eq_true rfl⟩, rfl, (hts _ (List.mem_of_getElem? (i := 17) rfl))⟩ rfl hl rfl (Nat.le_of_ble_eq_true rfl) dX4_init_63 ⟨Nat.le_of_ble_eq_true rfl, Nat.le_of_ble_eq_true rfl⟩ hS (fun H locs h_63 hz_63 hS => ?_)
  have hKK := hKK0.keep hS.2.1
  obtain ⟨N_63, F_63, hNs63, hNo63, hNj63, hFi63, hFj63, hFo63, hW, hsz63⟩ := h_63
  have hFc0_63 := (hFo63 0 (by decide) (by decide)).trans hFc0_59
  have hNc0_63 := hNs63 _ hNc0_59
  have hFc1_63 := (hFo63 1 (by decide) (by decide)).trans hFc1_59
  have hNc1_63 := hNs63 _ hNc1_59
  have hFc2_63 := (hFo63 2 (by decide) (by decide)).trans hFc2_59
  have hNc2_63 := hNs63 _ hNc2_59
  have hFc3_63 := (hFo63 3 (by decide) (by decide)).trans hFc3_59
  have hNc3_63 := hNs63 _ hNc3_59
  have hFc4_63 := (hFo63 4 (by decide) (by decide)).trans hFc4_59
  have hNc4_63 := hNs63 _ hNc4_59
  have hFc5_63 := (hFo63 5 (by decide) (by decide)).trans hFc5_59
  have hNc5_63 := hNs63 _ hNc5_59
  have hFc8_63 := (hFo63 8 (by decide) (by decide)).trans hFc8_59
  have hNc8_63 := hNs63 _ hNc8_59
  have hFc6_63 := (hFo63 6 (by decide) (by decide)).trans hFc6_59
  have hNc6_63 := hNs63 _ hNc6_59
  have hFc9_63 := (hFo63 9 (by decide) (by decide)).trans hFc9_59
  have hNc9_63 := hNs63 _ hNc9_59
  have hNc7_63 := hNs63 _ hNi59
  have hFc7_63 := hFi63
  have hNc10_63 := hNj63
  have hFc10_63 := hFj63
  have hHs : H.size = z0 + 10 := ck_szs hsz63 hHs
  clear hsz63
  have hSz : G.2.2.2 ≤ H.size := ck_szle hSz0 hHs
  have hNL := hNL.one hNo63
  have hsub : ∀ i, N i → N_63 i := fun i h => hNs63 i (hsub i h)
  have hsm : ck_sU F F_63 := fun j hj => (hFo63 j (ck_neU hj (by decide)) (ck_neU hj (by decide))).trans (hsm j hj)
  refine ck_aast (r := (RX3, TX3, 5)) hx hb hK hW hS hNc1_63 hFc1_63 5 rfl 2 (by decide) (by decide) (by decide) hNc7_63 hFc7_63 rfl dX4_init_66 (fun H locs hW hS hz66 => ?_)
  obtain ⟨F_66, hFe66, hFo66, hW⟩ := ck_name hW
  have hHs : H.size = z0 + 10 := hz66.trans hHs
  clear hz66
  have hSz : G.2.2.2 ≤ H.size := ck_szle hSz0 hHs
  have hFc0_66 := (hFo66 0 (by decide)).trans hFc0_63
  have hFc2_66 := (hFo66 2 (by decide)).trans hFc2_63
  have hFc3_66 := (hFo66 3 (by decide)).trans hFc3_63
  have hFc4_66 := (hFo66 4 (by decide)).trans hFc4_63
  have hFc5_66 := (hFo66 5 (by decide)).trans hFc5_63
  have hFc8_66 := (hFo66 8 (by decide)).trans hFc8_63
  have hFc6_66 := (hFo66 6 (by decide)).trans hFc6_63
  have hFc9_66 := (hFo66 9 (by decide)).trans hFc9_63
  have hFc7_66 := (hFo66 7 (by decide)).trans hFc7_63
  have hFc10_66 := (hFo66 10 (by decide)).trans hFc10_63
  have hsm : ck_sU F F_66 := fun j hj => (hFo66 j (ck_neU hj (by decide))).trans (hsm j hj)
  have hKK := hKK0.keep hS.2.1
  refine lv_iinc (v := 3) (lv' := [(1, .int (3)), (0, .ref (ad 0))]) hx hb dX4_init_67 hl (k := 0) rfl (by decide) (by decide) rfl (fun ls hl => ?_)
  refine lv_goto (tgt := 45) hx hb dX4_init_70 (by decide) ?_
  refine lv_iload_n hx hb dX4_init_45 rfl (lv_at hl 0 rfl) ?_
  refine lv_aload_n hx hb dX4_init_46 rfl (lv_at hl 1 rfl) ?_
  refine ck_get (v := .ref (ad 1)) hx hb hts hinX4 hown hK hW hNc0_63 hFc0_66 rfl 0 (by decide) (hts _ (List.mem_of_getElem? (i := 5) rfl)) rfl rfl dX4_init_47 ?_
  refine ck_alen (v := 3) hx hb hK hW hNc1_63 hFe66 5 rfl rfl dX4_init_50 ?_
  refine ck_pc (q := 51) rfl ?_
  refine lv_icmp_ge (tgt := 73) hx hb dX4_init_51 (by decide) (fun _ => ?_) (fun c_51 => absurd (by decide) c_51)
  refine lv_iconst (v := 0) hx hb dX4_init_73 (by decide) ?_
  refine lv_istore_n (lv' := [(1, .int 0), (0, .ref (ad 0))]) hx hb dX4_init_74 rfl hl (by decide) rfl (fun ls hl => ?_)
  refine lv_iload_n hx hb dX4_init_75 rfl (lv_at hl 0 rfl) ?_
  refine lv_aload_n hx hb dX4_init_76 rfl (lv_at hl 1 rfl) ?_
  refine ck_get (v := .ref (ad 4)) hx hb hts hinX4 hown hK hW hNc0_63 hFc0_66 rfl 7 (by decide) (hts _ (List.mem_of_getElem? (i := 12) rfl)) rfl rfl dX4_init_77 ?_
  refine ck_alen (v := 4) hx hb hK hW hNc4_63 hFc4_66 3 rfl rfl dX4_init_80 ?_
  refine lv_icmp_ge (tgt := 103) hx hb dX4_init_81 (by decide) (fun c_81 => absurd c_81 (by decide)) (fun _ => ?_)
  refine lv_aload_n hx hb dX4_init_84 rfl (lv_at hl 1 rfl) ?_
  refine ck_get (v := .ref (ad 4)) hx hb hts hinX4 hown hK hW hNc0_63 hFc0_66 rfl 7 (by decide) (hts _ (List.mem_of_getElem? (i := 12) rfl)) rfl rfl dX4_init_85 ?_
  refine ck_pc (q := 88) rfl ?_
  refine lv_iload_n hx hb dX4_init_88 rfl (lv_at hl 0 rfl) ?_
  refine ck_newO (ci := 1) hx hb hts hinX1 tyX1 tyX1_ok hown (hts _ (List.mem_of_getElem? (i := 11) rfl)) (hts _ (List.mem_of_getElem? (i := 15) rfl)) (hts _ (List.mem_of_getElem? (i := 16) rfl)) hK hW hS hSz 11 ((hNL.dead (hno 11 (by decide) (by decide)) (by decide))) (((had.2.2.2.2.2.2.2.2.2.2.1).trans hHs.symm)) rfl [.null, .null] (fun j hj => by rcases (show j = 0 ∨ j = 1 by omega) with rfl | rfl <;> rfl) (Nat.le_of_ble_eq_true rfl) (Nat.le_of_ble_eq_true rfl) dX4_init_89 (fun N_89 F_89 H hNw89 hS hz89 => ?_)
  obtain ⟨hNs89, hNo89, hNi89, hFe89, hFo89, hW⟩ := hNw89
  have hFc0_89 := (hFo89 0 (by decide)).trans hFc0_66
  have hNc0_89 := hNs89 _ hNc0_63
  have hFc1_89 := (hFo89 1 (by decide)).trans hFe66
  have hNc1_89 := hNs89 _ hNc1_63
  have hFc2_89 := (hFo89 2 (by decide)).trans hFc2_66
  have hNc2_89 := hNs89 _ hNc2_63
  have hFc3_89 := (hFo89 3 (by decide)).trans hFc3_66
  have hNc3_89 := hNs89 _ hNc3_63
  have hFc4_89 := (hFo89 4 (by decide)).trans hFc4_66
  have hNc4_89 := hNs89 _ hNc4_63
  have hFc5_89 := (hFo89 5 (by decide)).trans hFc5_66
  have hNc5_89 := hNs89 _ hNc5_63
  have hFc8_89 := (hFo89 8 (by decide)).trans hFc8_66
  have hNc8_89 := hNs89 _ hNc8_63
  have hFc6_89 := (hFo89 6 (by decide)).trans hFc6_66
  have hNc6_89 := hNs89 _ hNc6_63
  have hFc9_89 := (hFo89 9 (by decide)).trans hFc9_66
  have hNc9_89 := hNs89 _ hNc9_63
  have hFc7_89 := (hFo89 7 (by decide)).trans hFc7_66
  have hNc7_89 := hNs89 _ hNc7_63
  have hFc10_89 := (hFo89 10 (by decide)).trans hFc10_66
  have hNc10_89 := hNs89 _ hNc10_63
  have hHs : H.size = z0 + 11 := ck_szs hz89 hHs
  clear hz89
  have hSz : G.2.2.2 ≤ H.size := ck_szle hSz0 hHs
  have hsm : ck_sU F F_89 := fun j hj => (hFo89 j (ck_neU hj (by decide))).trans (hsm j hj)
  have hNL := hNL.one hNo89
  have hsub : ∀ i, N i → N_89 i := fun i h => hNs89 i (hsub i h)
  have hKK := hKK0.keep hS.2.1
  refine lv_dup hx hb dX4_init_92 rfl ?_
  refine ck_cJn (As := []) (rest := [.ref (ad 11), .int 0, .ref (ad 4)]) ⟨hx, hb, hml, hown, hts⟩ hKK (ct_X1_init l G H ad N_89 F_89 hW hSz 11 15 19 (by decide) (by decide) (by decide) hNi89 (hNL.dead (hno 15 (by decide) (by decide)) (by decide)) (hNL.dead (hno 19 (by decide) (by decide)) (by decide)) ((had.2.2.2.2.2.2.2.2.2.2.2.1).trans hHs.symm) ((had.2.2.2.2.2.2.2.2.2.2.2.2.1).trans (ck_sz1 hHs)) hFe89) ⟨va_cnB 0 hts gX4_init_X1_init_n38 rfl rfl rfl hKK.1.2.2.1.2.1 (hts _ (List.mem_of_getElem? (i := 16) rfl)) (by decide +kernel) ⟨Nat.le_of_ble_eq_true rfl, Nat.le_of_ble_eq_true rfl⟩, rfl, (hts _ (List.mem_of_getElem? (i := 23) rfl))⟩ rfl hl rfl (Nat.le_of_ble_eq_true rfl) dX4_init_93 ⟨Nat.le_of_ble_eq_true rfl, Nat.le_of_ble_eq_true rfl⟩ hS (fun H locs h_93 hz_93 hS => ?_)
  have hKK := hKK0.keep hS.2.1
  obtain ⟨N_93, F_93, hNs93, hNo93, hNj93, hNk93, hFi93, hFj93, hFk93, hFo93, hW, hsz93⟩ := h_93
  have hFc0_93 := (hFo93 0 (by decide) (by decide) (by decide)).trans hFc0_89
  have hNc0_93 := hNs93 _ hNc0_89
  have hFc1_93 := (hFo93 1 (by decide) (by decide) (by decide)).trans hFc1_89
  have hNc1_93 := hNs93 _ hNc1_89
  have hFc2_93 := (hFo93 2 (by decide) (by decide) (by decide)).trans hFc2_89
  have hNc2_93 := hNs93 _ hNc2_89
  have hFc3_93 := (hFo93 3 (by decide) (by decide) (by decide)).trans hFc3_89
  have hNc3_93 := hNs93 _ hNc3_89
  have hFc4_93 := (hFo93 4 (by decide) (by decide) (by decide)).trans hFc4_89
  have hNc4_93 := hNs93 _ hNc4_89
  have hFc5_93 := (hFo93 5 (by decide) (by decide) (by decide)).trans hFc5_89
  have hNc5_93 := hNs93 _ hNc5_89
  have hFc8_93 := (hFo93 8 (by decide) (by decide) (by decide)).trans hFc8_89
  have hNc8_93 := hNs93 _ hNc8_89
  have hFc6_93 := (hFo93 6 (by decide) (by decide) (by decide)).trans hFc6_89
  have hNc6_93 := hNs93 _ hNc6_89
  have hFc9_93 := (hFo93 9 (by decide) (by decide) (by decide)).trans hFc9_89
  have hNc9_93 := hNs93 _ hNc9_89
  have hFc7_93 := (hFo93 7 (by decide) (by decide) (by decide)).trans hFc7_89
  have hNc7_93 := hNs93 _ hNc7_89
  have hFc10_93 := (hFo93 10 (by decide) (by decide) (by decide)).trans hFc10_89
  have hNc10_93 := hNs93 _ hNc10_89
  have hNc11_93 := hNs93 _ hNi89
  have hFc11_93 := hFi93
  have hNc15_93 := hNj93
  have hFc15_93 := hFj93
  have hNc19_93 := hNk93
  have hFc19_93 := hFk93
  have hHs : H.size = z0 + 13 := ck_szs hsz93 hHs
  clear hsz93
  have hSz : G.2.2.2 ≤ H.size := ck_szle hSz0 hHs
  have hNL := hNL.two hNo93
  have hsub : ∀ i, N i → N_93 i := fun i h => hNs93 i (hsub i h)
  have hsm : ck_sU F F_93 := fun j hj => (hFo93 j (ck_neU hj (by decide)) (ck_neU hj (by decide)) (ck_neU hj (by decide))).trans (hsm j hj)
  refine ck_aast (r := (RX1, TX1, 2)) hx hb hK hW hS hNc4_93 hFc4_93 3 rfl 0 (by decide) (by decide) (by decide) hNc11_93 hFc11_93 rfl dX4_init_96 (fun H locs hW hS hz96 => ?_)
  obtain ⟨F_96, hFe96, hFo96, hW⟩ := ck_name hW
  have hHs : H.size = z0 + 13 := hz96.trans hHs
  clear hz96
  have hSz : G.2.2.2 ≤ H.size := ck_szle hSz0 hHs
  have hFc0_96 := (hFo96 0 (by decide)).trans hFc0_93
  have hFc1_96 := (hFo96 1 (by decide)).trans hFc1_93
  have hFc2_96 := (hFo96 2 (by decide)).trans hFc2_93
  have hFc3_96 := (hFo96 3 (by decide)).trans hFc3_93
  have hFc5_96 := (hFo96 5 (by decide)).trans hFc5_93
  have hFc8_96 := (hFo96 8 (by decide)).trans hFc8_93
  have hFc6_96 := (hFo96 6 (by decide)).trans hFc6_93
  have hFc9_96 := (hFo96 9 (by decide)).trans hFc9_93
  have hFc7_96 := (hFo96 7 (by decide)).trans hFc7_93
  have hFc10_96 := (hFo96 10 (by decide)).trans hFc10_93
  have hFc11_96 := (hFo96 11 (by decide)).trans hFc11_93
  have hFc15_96 := (hFo96 15 (by decide)).trans hFc15_93
  have hFc19_96 := (hFo96 19 (by decide)).trans hFc19_93
  have hsm : ck_sU F F_96 := fun j hj => (hFo96 j (ck_neU hj (by decide))).trans (hsm j hj)
  have hKK := hKK0.keep hS.2.1
  refine lv_iinc (v := 1) (lv' := [(1, .int (1)), (0, .ref (ad 0))]) hx hb dX4_init_97 hl (k := 0) rfl (by decide) (by decide) rfl (fun ls hl => ?_)
  refine lv_goto (tgt := 75) hx hb dX4_init_100 (by decide) ?_
  refine lv_iload_n hx hb dX4_init_75 rfl (lv_at hl 0 rfl) ?_
  refine lv_aload_n hx hb dX4_init_76 rfl (lv_at hl 1 rfl) ?_
  refine ck_get (v := .ref (ad 4)) hx hb hts hinX4 hown hK hW hNc0_93 hFc0_96 rfl 7 (by decide) (hts _ (List.mem_of_getElem? (i := 12) rfl)) rfl rfl dX4_init_77 ?_
  refine ck_pc (q := 80) rfl ?_
  refine ck_alen (v := 4) hx hb hK hW hNc4_93 hFe96 3 rfl rfl dX4_init_80 ?_
  refine lv_icmp_ge (tgt := 103) hx hb dX4_init_81 (by decide) (fun c_81 => absurd c_81 (by decide)) (fun _ => ?_)
  refine lv_aload_n hx hb dX4_init_84 rfl (lv_at hl 1 rfl) ?_
  refine ck_get (v := .ref (ad 4)) hx hb hts hinX4 hown hK hW hNc0_93 hFc0_96 rfl 7 (by decide) (hts _ (List.mem_of_getElem? (i := 12) rfl)) rfl rfl dX4_init_85 ?_
  refine lv_iload_n hx hb dX4_init_88 rfl (lv_at hl 0 rfl) ?_
  refine ck_newO (ci := 1) hx hb hts hinX1 tyX1 tyX1_ok hown (hts _ (List.mem_of_getElem? (i := 11) rfl)) (hts _ (List.mem_of_getElem? (i := 15) rfl)) (hts _ (List.mem_of_getElem? (i := 16) rfl)) hK hW hS hSz 12 ((hNL.dead (hno 12 (by decide) (by decide)) (by decide))) (((had.2.2.2.2.2.2.2.2.2.2.2.2.2.1).trans hHs.symm)) rfl [.null, .null] (fun j hj => by rcases (show j = 0 ∨ j = 1 by omega) with rfl | rfl <;> rfl) (Nat.le_of_ble_eq_true rfl) (Nat.le_of_ble_eq_true rfl) dX4_init_89 (fun N_89 F_89 H hNw89 hS hz89 => ?_)
  obtain ⟨hNs89, hNo89, hNi89, hFe89, hFo89, hW⟩ := hNw89
  have hFc0_89 := (hFo89 0 (by decide)).trans hFc0_96
  have hNc0_89 := hNs89 _ hNc0_93
  have hFc1_89 := (hFo89 1 (by decide)).trans hFc1_96
  have hNc1_89 := hNs89 _ hNc1_93
  have hFc2_89 := (hFo89 2 (by decide)).trans hFc2_96
  have hNc2_89 := hNs89 _ hNc2_93
  have hFc3_89 := (hFo89 3 (by decide)).trans hFc3_96
  have hNc3_89 := hNs89 _ hNc3_93
  have hFc4_89 := (hFo89 4 (by decide)).trans hFe96
  have hNc4_89 := hNs89 _ hNc4_93
  have hFc5_89 := (hFo89 5 (by decide)).trans hFc5_96
  have hNc5_89 := hNs89 _ hNc5_93
  have hFc8_89 := (hFo89 8 (by decide)).trans hFc8_96
  have hNc8_89 := hNs89 _ hNc8_93
  have hFc6_89 := (hFo89 6 (by decide)).trans hFc6_96
  have hNc6_89 := hNs89 _ hNc6_93
  have hFc9_89 := (hFo89 9 (by decide)).trans hFc9_96
  have hNc9_89 := hNs89 _ hNc9_93
  have hFc7_89 := (hFo89 7 (by decide)).trans hFc7_96
  have hNc7_89 := hNs89 _ hNc7_93
  have hFc10_89 := (hFo89 10 (by decide)).trans hFc10_96
  have hNc10_89 := hNs89 _ hNc10_93
  have hFc11_89 := (hFo89 11 (by decide)).trans hFc11_96
  have hNc11_89 := hNs89 _ hNc11_93
  have hFc15_89 := (hFo89 15 (by decide)).trans hFc15_96
  have hNc15_89 := hNs89 _ hNc15_93
  have hFc19_89 := (hFo89 19 (by decide)).trans hFc19_96
  have hNc19_89 := hNs89 _ hNc19_93
  have hHs : H.size = z0 + 14 := ck_szs hz89 hHs
  clear hz89
  have hSz : G.2.2.2 ≤ H.size := ck_szle hSz0 hHs
  have hsm : ck_sU F F_89 := fun j hj => (hFo89 j (ck_neU hj (by decide))).trans (hsm j hj)
  have hNL := hNL.one hNo89
  have hsub : ∀ i, N i → N_89 i := fun i h => hNs89 i (hsub i h)
  have hKK := hKK0.keep hS.2.1
  refine lv_dup hx hb dX4_init_92 rfl ?_
  refine ck_cJn (As := []) (rest := [.ref (ad 12), .int (1), .ref (ad 4)]) ⟨hx, hb, hml, hown, hts⟩ hKK (ct_X1_init l G H ad N_89 F_89 hW hSz 12 16 20 (by decide) (by decide) (by decide) hNi89 (hNL.dead (hno 16 (by decide) (by decide)) (by decide)) (hNL.dead (hno 20 (by decide) (by decide)) (by decide)) ((had.2.2.2.2.2.2.2.2.2.2.2.2.2.2.1).trans hHs.symm) ((had.2.2.2.2.2.2.2.2.2.2.2.2.2.2.2.1).trans (ck_sz1 hHs)) hFe89) ⟨va_cnB 0 hts gX4_init_X1_init_n38 rfl rfl rfl hKK.1.2.2.1.2.1 (hts _ (List.mem_of_getElem? (i := 16) rfl)) (by decide +kernel) ⟨Nat.le_of_ble_eq_true rfl, Nat.le_of_ble_eq_true rfl⟩, rfl, (hts _ (List.mem_of_getElem? (i := 23) rfl))⟩ rfl hl rfl (Nat.le_of_ble_eq_true rfl) dX4_init_93 ⟨Nat.le_of_ble_eq_true rfl, Nat.le_of_ble_eq_true rfl⟩ hS (fun H locs h_93 hz_93 hS => ?_)
  have hKK := hKK0.keep hS.2.1
  obtain ⟨N_93, F_93, hNs93, hNo93, hNj93, hNk93, hFi93, hFj93, hFk93, hFo93, hW, hsz93⟩ := h_93
  have hFc0_93 := (hFo93 0 (by decide) (by decide) (by decide)).trans hFc0_89
  have hNc0_93 := hNs93 _ hNc0_89
  have hFc1_93 := (hFo93 1 (by decide) (by decide) (by decide)).trans hFc1_89
  have hNc1_93 := hNs93 _ hNc1_89
  have hFc2_93 := (hFo93 2 (by decide) (by decide) (by decide)).trans hFc2_89
  have hNc2_93 := hNs93 _ hNc2_89
  have hFc3_93 := (hFo93 3 (by decide) (by decide) (by decide)).trans hFc3_89
  have hNc3_93 := hNs93 _ hNc3_89
  have hFc4_93 := (hFo93 4 (by decide) (by decide) (by decide)).trans hFc4_89
  have hNc4_93 := hNs93 _ hNc4_89
  have hFc5_93 := (hFo93 5 (by decide) (by decide) (by decide)).trans hFc5_89
  have hNc5_93 := hNs93 _ hNc5_89
  have hFc8_93 := (hFo93 8 (by decide) (by decide) (by decide)).trans hFc8_89
  have hNc8_93 := hNs93 _ hNc8_89
  have hFc6_93 := (hFo93 6 (by decide) (by decide) (by decide)).trans hFc6_89
  have hNc6_93 := hNs93 _ hNc6_89
  have hFc9_93 := (hFo93 9 (by decide) (by decide) (by decide)).trans hFc9_89
  have hNc9_93 := hNs93 _ hNc9_89
  have hFc7_93 := (hFo93 7 (by decide) (by decide) (by decide)).trans hFc7_89
  have hNc7_93 := hNs93 _ hNc7_89
  have hFc10_93 := (hFo93 10 (by decide) (by decide) (by decide)).trans hFc10_89
  have hNc10_93 := hNs93 _ hNc10_89
  have hFc11_93 := (hFo93 11 (by decide) (by decide) (by decide)).trans hFc11_89
  have hNc11_93 := hNs93 _ hNc11_89
  have hFc15_93 := (hFo93 15 (by decide) (by decide) (by decide)).trans hFc15_89
  have hNc15_93 := hNs93 _ hNc15_89
  have hFc19_93 := (hFo93 19 (by decide) (by decide) (by decide)).trans hFc19_89
  have hNc19_93 := hNs93 _ hNc19_89
  have hNc12_93 := hNs93 _ hNi89
  have hFc12_93 := hFi93
  have hNc16_93 := hNj93
  have hFc16_93 := hFj93
  have hNc20_93 := hNk93
  have hFc20_93 := hFk93
  have hHs : H.size = z0 + 16 := ck_szs hsz93 hHs
  clear hsz93
  have hSz : G.2.2.2 ≤ H.size := ck_szle hSz0 hHs
  have hNL := hNL.two hNo93
  have hsub : ∀ i, N i → N_93 i := fun i h => hNs93 i (hsub i h)
  have hsm : ck_sU F F_93 := fun j hj => (hFo93 j (ck_neU hj (by decide)) (ck_neU hj (by decide)) (ck_neU hj (by decide))).trans (hsm j hj)
  refine ck_aast (r := (RX1, TX1, 2)) hx hb hK hW hS hNc4_93 hFc4_93 3 rfl 1 (by decide) (by decide) (by decide) hNc12_93 hFc12_93 rfl dX4_init_96 (fun H locs hW hS hz96 => ?_)
  obtain ⟨F_96, hFe96, hFo96, hW⟩ := ck_name hW
  have hHs : H.size = z0 + 16 := hz96.trans hHs
  clear hz96
  have hSz : G.2.2.2 ≤ H.size := ck_szle hSz0 hHs
  have hFc0_96 := (hFo96 0 (by decide)).trans hFc0_93
  have hFc1_96 := (hFo96 1 (by decide)).trans hFc1_93
  have hFc2_96 := (hFo96 2 (by decide)).trans hFc2_93
  have hFc3_96 := (hFo96 3 (by decide)).trans hFc3_93
  have hFc5_96 := (hFo96 5 (by decide)).trans hFc5_93
  have hFc8_96 := (hFo96 8 (by decide)).trans hFc8_93
  have hFc6_96 := (hFo96 6 (by decide)).trans hFc6_93
  have hFc9_96 := (hFo96 9 (by decide)).trans hFc9_93
  have hFc7_96 := (hFo96 7 (by decide)).trans hFc7_93
  have hFc10_96 := (hFo96 10 (by decide)).trans hFc10_93
  have hFc11_96 := (hFo96 11 (by decide)).trans hFc11_93
  have hFc15_96 := (hFo96 15 (by decide)).trans hFc15_93
  have hFc19_96 := (hFo96 19 (by decide)).trans hFc19_93
  have hFc12_96 := (hFo96 12 (by decide)).trans hFc12_93
  have hFc16_96 := (hFo96 16 (by decide)).trans hFc16_93
  have hFc20_96 := (hFo96 20 (by decide)).trans hFc20_93
  have hsm : ck_sU F F_96 := fun j hj => (hFo96 j (ck_neU hj (by decide))).trans (hsm j hj)
  have hKK := hKK0.keep hS.2.1
  refine lv_iinc (v := 2) (lv' := [(1, .int (2)), (0, .ref (ad 0))]) hx hb dX4_init_97 hl (k := 0) rfl (by decide) (by decide) rfl (fun ls hl => ?_)
  refine ck_pc (q := 100) rfl ?_
  refine lv_goto (tgt := 75) hx hb dX4_init_100 (by decide) ?_
  refine lv_iload_n hx hb dX4_init_75 rfl (lv_at hl 0 rfl) ?_
  refine lv_aload_n hx hb dX4_init_76 rfl (lv_at hl 1 rfl) ?_
  refine ck_get (v := .ref (ad 4)) hx hb hts hinX4 hown hK hW hNc0_93 hFc0_96 rfl 7 (by decide) (hts _ (List.mem_of_getElem? (i := 12) rfl)) rfl rfl dX4_init_77 ?_
  refine ck_alen (v := 4) hx hb hK hW hNc4_93 hFe96 3 rfl rfl dX4_init_80 ?_
  refine lv_icmp_ge (tgt := 103) hx hb dX4_init_81 (by decide) (fun c_81 => absurd c_81 (by decide)) (fun _ => ?_)
  refine lv_aload_n hx hb dX4_init_84 rfl (lv_at hl 1 rfl) ?_
  refine ck_get (v := .ref (ad 4)) hx hb hts hinX4 hown hK hW hNc0_93 hFc0_96 rfl 7 (by decide) (hts _ (List.mem_of_getElem? (i := 12) rfl)) rfl rfl dX4_init_85 ?_
  refine lv_iload_n hx hb dX4_init_88 rfl (lv_at hl 0 rfl) ?_
  refine ck_newO (ci := 1) hx hb hts hinX1 tyX1 tyX1_ok hown (hts _ (List.mem_of_getElem? (i := 11) rfl)) (hts _ (List.mem_of_getElem? (i := 15) rfl)) (hts _ (List.mem_of_getElem? (i := 16) rfl)) hK hW hS hSz 13 ((hNL.dead (hno 13 (by decide) (by decide)) (by decide))) (((had.2.2.2.2.2.2.2.2.2.2.2.2.2.2.2.2.1).trans hHs.symm)) rfl [.null, .null] (fun j hj => by rcases (show j = 0 ∨ j = 1 by omega) with rfl | rfl <;> rfl) (Nat.le_of_ble_eq_true rfl) (Nat.le_of_ble_eq_true rfl) dX4_init_89 (fun N_89 F_89 H hNw89 hS hz89 => ?_)
  obtain ⟨hNs89, hNo89, hNi89, hFe89, hFo89, hW⟩ := hNw89
  have hFc0_89 := (hFo89 0 (by decide)).trans hFc0_96
  have hNc0_89 := hNs89 _ hNc0_93
  have hFc1_89 := (hFo89 1 (by decide)).trans hFc1_96
  have hNc1_89 := hNs89 _ hNc1_93
  have hFc2_89 := (hFo89 2 (by decide)).trans hFc2_96
  have hNc2_89 := hNs89 _ hNc2_93
  have hFc3_89 := (hFo89 3 (by decide)).trans hFc3_96
  have hNc3_89 := hNs89 _ hNc3_93
  have hFc4_89 := (hFo89 4 (by decide)).trans hFe96
  have hNc4_89 := hNs89 _ hNc4_93
  have hFc5_89 := (hFo89 5 (by decide)).trans hFc5_96
  have hNc5_89 := hNs89 _ hNc5_93
  have hFc8_89 := (hFo89 8 (by decide)).trans hFc8_96
  have hNc8_89 := hNs89 _ hNc8_93
  have hFc6_89 := (hFo89 6 (by decide)).trans hFc6_96
  have hNc6_89 := hNs89 _ hNc6_93
  have hFc9_89 := (hFo89 9 (by decide)).trans hFc9_96
  have hNc9_89 := hNs89 _ hNc9_93
  have hFc7_89 := (hFo89 7 (by decide)).trans hFc7_96
  have hNc7_89 := hNs89 _ hNc7_93
  have hFc10_89 := (hFo89 10 (by decide)).trans hFc10_96
  have hNc10_89 := hNs89 _ hNc10_93
  have hFc11_89 := (hFo89 11 (by decide)).trans hFc11_96
  have hNc11_89 := hNs89 _ hNc11_93
  have hFc15_89 := (hFo89 15 (by decide)).trans hFc15_96
  have hNc15_89 := hNs89 _ hNc15_93
  have hFc19_89 := (hFo89 19 (by decide)).trans hFc19_96
  have hNc19_89 := hNs89 _ hNc19_93
  have hFc12_89 := (hFo89 12 (by decide)).trans hFc12_96
  have hNc12_89 := hNs89 _ hNc12_93
  have hFc16_89 := (hFo89 16 (by decide)).trans hFc16_96
  have hNc16_89 := hNs89 _ hNc16_93
  have hFc20_89 := (hFo89 20 (by decide)).trans hFc20_96
  have hNc20_89 := hNs89 _ hNc20_93
  have hHs : H.size = z0 + 17 := ck_szs hz89 hHs
  clear hz89
  have hSz : G.2.2.2 ≤ H.size := ck_szle hSz0 hHs
  have hsm : ck_sU F F_89 := fun j hj => (hFo89 j (ck_neU hj (by decide))).trans (hsm j hj)
  have hNL := hNL.one hNo89
  have hsub : ∀ i, N i → N_89 i := fun i h => hNs89 i (hsub i h)
  have hKK := hKK0.keep hS.2.1
  refine ck_pc (q := 92) rfl ?_
  refine lv_dup hx hb dX4_init_92 rfl ?_
  refine ck_cJn (As := []) (rest := [.ref (ad 13), .int (2), .ref (ad 4)]) ⟨hx, hb, hml, hown, hts⟩ hKK (ct_X1_init l G H ad N_89 F_89 hW hSz 13 17 21 (by decide) (by decide) (by decide) hNi89 (hNL.dead (hno 17 (by decide) (by decide)) (by decide)) (hNL.dead (hno 21 (by decide) (by decide)) (by decide)) ((had.2.2.2.2.2.2.2.2.2.2.2.2.2.2.2.2.2.1).trans hHs.symm) ((had.2.2.2.2.2.2.2.2.2.2.2.2.2.2.2.2.2.2.1).trans (ck_sz1 hHs)) hFe89) ⟨va_cnB 0 hts gX4_init_X1_init_n38 rfl rfl rfl hKK.1.2.2.1.2.1 (hts _ (List.mem_of_getElem? (i := 16) rfl)) (by decide +kernel) ⟨Nat.le_of_ble_eq_true rfl, Nat.le_of_ble_eq_true rfl⟩, rfl, (hts _ (List.mem_of_getElem? (i := 23) rfl))⟩ rfl hl rfl (Nat.le_of_ble_eq_true rfl) dX4_init_93 ⟨Nat.le_of_ble_eq_true rfl, Nat.le_of_ble_eq_true rfl⟩ hS (fun H locs h_93 hz_93 hS => ?_)
  have hKK := hKK0.keep hS.2.1
  obtain ⟨N_93, F_93, hNs93, hNo93, hNj93, hNk93, hFi93, hFj93, hFk93, hFo93, hW, hsz93⟩ := h_93
  have hFc0_93 := (hFo93 0 (by decide) (by decide) (by decide)).trans hFc0_89
  have hNc0_93 := hNs93 _ hNc0_89
  have hFc1_93 := (hFo93 1 (by decide) (by decide) (by decide)).trans hFc1_89
  have hNc1_93 := hNs93 _ hNc1_89
  have hFc2_93 := (hFo93 2 (by decide) (by decide) (by decide)).trans hFc2_89
  have hNc2_93 := hNs93 _ hNc2_89
  have hFc3_93 := (hFo93 3 (by decide) (by decide) (by decide)).trans hFc3_89
  have hNc3_93 := hNs93 _ hNc3_89
  have hFc4_93 := (hFo93 4 (by decide) (by decide) (by decide)).trans hFc4_89
  have hNc4_93 := hNs93 _ hNc4_89
  have hFc5_93 := (hFo93 5 (by decide) (by decide) (by decide)).trans hFc5_89
  have hNc5_93 := hNs93 _ hNc5_89
  have hFc8_93 := (hFo93 8 (by decide) (by decide) (by decide)).trans hFc8_89
  have hNc8_93 := hNs93 _ hNc8_89
  have hFc6_93 := (hFo93 6 (by decide) (by decide) (by decide)).trans hFc6_89
  have hNc6_93 := hNs93 _ hNc6_89
  have hFc9_93 := (hFo93 9 (by decide) (by decide) (by decide)).trans hFc9_89
  have hNc9_93 := hNs93 _ hNc9_89
  have hFc7_93 := (hFo93 7 (by decide) (by decide) (by decide)).trans hFc7_89
  have hNc7_93 := hNs93 _ hNc7_89
  have hFc10_93 := (hFo93 10 (by decide) (by decide) (by decide)).trans hFc10_89
  have hNc10_93 := hNs93 _ hNc10_89
  have hFc11_93 := (hFo93 11 (by decide) (by decide) (by decide)).trans hFc11_89
  have hNc11_93 := hNs93 _ hNc11_89
  have hFc15_93 := (hFo93 15 (by decide) (by decide) (by decide)).trans hFc15_89
  have hNc15_93 := hNs93 _ hNc15_89
  have hFc19_93 := (hFo93 19 (by decide) (by decide) (by decide)).trans hFc19_89
  have hNc19_93 := hNs93 _ hNc19_89
  have hFc12_93 := (hFo93 12 (by decide) (by decide) (by decide)).trans hFc12_89
  have hNc12_93 := hNs93 _ hNc12_89
  have hFc16_93 := (hFo93 16 (by decide) (by decide) (by decide)).trans hFc16_89
  have hNc16_93 := hNs93 _ hNc16_89
  have hFc20_93 := (hFo93 20 (by decide) (by decide) (by decide)).trans hFc20_89
  have hNc20_93 := hNs93 _ hNc20_89
  have hNc13_93 := hNs93 _ hNi89
  have hFc13_93 := hFi93
  have hNc17_93 := hNj93
  have hFc17_93 := hFj93
  have hNc21_93 := hNk93
  have hFc21_93 := hFk93
  have hHs : H.size = z0 + 19 := ck_szs hsz93 hHs
  clear hsz93
  have hSz : G.2.2.2 ≤ H.size := ck_szle hSz0 hHs
  have hNL := hNL.two hNo93
  have hsub : ∀ i, N i → N_93 i := fun i h => hNs93 i (hsub i h)
  have hsm : ck_sU F F_93 := fun j hj => (hFo93 j (ck_neU hj (by decide)) (ck_neU hj (by decide)) (ck_neU hj (by decide))).trans (hsm j hj)
  refine ck_aast (r := (RX1, TX1, 2)) hx hb hK hW hS hNc4_93 hFc4_93 3 rfl 2 (by decide) (by decide) (by decide) hNc13_93 hFc13_93 rfl dX4_init_96 (fun H locs hW hS hz96 => ?_)
  obtain ⟨F_96, hFe96, hFo96, hW⟩ := ck_name hW
  have hHs : H.size = z0 + 19 := hz96.trans hHs
  clear hz96
  have hSz : G.2.2.2 ≤ H.size := ck_szle hSz0 hHs
  have hFc0_96 := (hFo96 0 (by decide)).trans hFc0_93
  have hFc1_96 := (hFo96 1 (by decide)).trans hFc1_93
  have hFc2_96 := (hFo96 2 (by decide)).trans hFc2_93
  have hFc3_96 := (hFo96 3 (by decide)).trans hFc3_93
  have hFc5_96 := (hFo96 5 (by decide)).trans hFc5_93
  have hFc8_96 := (hFo96 8 (by decide)).trans hFc8_93
  have hFc6_96 := (hFo96 6 (by decide)).trans hFc6_93
  have hFc9_96 := (hFo96 9 (by decide)).trans hFc9_93
  have hFc7_96 := (hFo96 7 (by decide)).trans hFc7_93
  have hFc10_96 := (hFo96 10 (by decide)).trans hFc10_93
  have hFc11_96 := (hFo96 11 (by decide)).trans hFc11_93
  have hFc15_96 := (hFo96 15 (by decide)).trans hFc15_93
  have hFc19_96 := (hFo96 19 (by decide)).trans hFc19_93
  have hFc12_96 := (hFo96 12 (by decide)).trans hFc12_93
  have hFc16_96 := (hFo96 16 (by decide)).trans hFc16_93
  have hFc20_96 := (hFo96 20 (by decide)).trans hFc20_93
  have hFc13_96 := (hFo96 13 (by decide)).trans hFc13_93
  have hFc17_96 := (hFo96 17 (by decide)).trans hFc17_93
  have hFc21_96 := (hFo96 21 (by decide)).trans hFc21_93
  have hsm : ck_sU F F_96 := fun j hj => (hFo96 j (ck_neU hj (by decide))).trans (hsm j hj)
  have hKK := hKK0.keep hS.2.1
  refine lv_iinc (v := 3) (lv' := [(1, .int (3)), (0, .ref (ad 0))]) hx hb dX4_init_97 hl (k := 0) rfl (by decide) (by decide) rfl (fun ls hl => ?_)
  refine lv_goto (tgt := 75) hx hb dX4_init_100 (by decide) ?_
  refine lv_iload_n hx hb dX4_init_75 rfl (lv_at hl 0 rfl) ?_
  refine lv_aload_n hx hb dX4_init_76 rfl (lv_at hl 1 rfl) ?_
  refine ck_get (v := .ref (ad 4)) hx hb hts hinX4 hown hK hW hNc0_93 hFc0_96 rfl 7 (by decide) (hts _ (List.mem_of_getElem? (i := 12) rfl)) rfl rfl dX4_init_77 ?_
  refine ck_alen (v := 4) hx hb hK hW hNc4_93 hFe96 3 rfl rfl dX4_init_80 ?_
  refine lv_icmp_ge (tgt := 103) hx hb dX4_init_81 (by decide) (fun c_81 => absurd c_81 (by decide)) (fun _ => ?_)
  refine ck_pc (q := 84) rfl ?_
  refine lv_aload_n hx hb dX4_init_84 rfl (lv_at hl 1 rfl) ?_
  refine ck_get (v := .ref (ad 4)) hx hb hts hinX4 hown hK hW hNc0_93 hFc0_96 rfl 7 (by decide) (hts _ (List.mem_of_getElem? (i := 12) rfl)) rfl rfl dX4_init_85 ?_
  refine lv_iload_n hx hb dX4_init_88 rfl (lv_at hl 0 rfl) ?_
  refine ck_newO (ci := 1) hx hb hts hinX1 tyX1 tyX1_ok hown (hts _ (List.mem_of_getElem? (i := 11) rfl)) (hts _ (List.mem_of_getElem? (i := 15) rfl)) (hts _ (List.mem_of_getElem? (i := 16) rfl)) hK hW hS hSz 14 ((hNL.dead (hno 14 (by decide) (by decide)) (by decide))) (((had.2.2.2.2.2.2.2.2.2.2.2.2.2.2.2.2.2.2.2.1).trans hHs.symm)) rfl [.null, .null] (fun j hj => by rcases (show j = 0 ∨ j = 1 by omega) with rfl | rfl <;> rfl) (Nat.le_of_ble_eq_true rfl) (Nat.le_of_ble_eq_true rfl) dX4_init_89 (fun N_89 F_89 H hNw89 hS hz89 => ?_)
  obtain ⟨hNs89, hNo89, hNi89, hFe89, hFo89, hW⟩ := hNw89
  have hFc0_89 := (hFo89 0 (by decide)).trans hFc0_96
  have hNc0_89 := hNs89 _ hNc0_93
  have hFc1_89 := (hFo89 1 (by decide)).trans hFc1_96
  have hNc1_89 := hNs89 _ hNc1_93
  have hFc2_89 := (hFo89 2 (by decide)).trans hFc2_96
  have hNc2_89 := hNs89 _ hNc2_93
  have hFc3_89 := (hFo89 3 (by decide)).trans hFc3_96
  have hNc3_89 := hNs89 _ hNc3_93
  have hFc4_89 := (hFo89 4 (by decide)).trans hFe96
  have hNc4_89 := hNs89 _ hNc4_93
  have hFc5_89 := (hFo89 5 (by decide)).trans hFc5_96
  have hNc5_89 := hNs89 _ hNc5_93
  have hFc8_89 := (hFo89 8 (by decide)).trans hFc8_96
  have hNc8_89 := hNs89 _ hNc8_93
  have hFc6_89 := (hFo89 6 (by decide)).trans hFc6_96
  have hNc6_89 := hNs89 _ hNc6_93
  have hFc9_89 := (hFo89 9 (by decide)).trans hFc9_96
  have hNc9_89 := hNs89 _ hNc9_93
  have hFc7_89 := (hFo89 7 (by decide)).trans hFc7_96
  have hNc7_89 := hNs89 _ hNc7_93
  have hFc10_89 := (hFo89 10 (by decide)).trans hFc10_96
  have hNc10_89 := hNs89 _ hNc10_93
  have hFc11_89 := (hFo89 11 (by decide)).trans hFc11_96
  have hNc11_89 := hNs89 _ hNc11_93
  have hFc15_89 := (hFo89 15 (by decide)).trans hFc15_96
  have hNc15_89 := hNs89 _ hNc15_93
  have hFc19_89 := (hFo89 19 (by decide)).trans hFc19_96
  have hNc19_89 := hNs89 _ hNc19_93
  have hFc12_89 := (hFo89 12 (by decide)).trans hFc12_96
  have hNc12_89 := hNs89 _ hNc12_93
  have hFc16_89 := (hFo89 16 (by decide)).trans hFc16_96
  have hNc16_89 := hNs89 _ hNc16_93
  have hFc20_89 := (hFo89 20 (by decide)).trans hFc20_96
  have hNc20_89 := hNs89 _ hNc20_93
  have hFc13_89 := (hFo89 13 (by decide)).trans hFc13_96
  have hNc13_89 := hNs89 _ hNc13_93
  have hFc17_89 := (hFo89 17 (by decide)).trans hFc17_96
  have hNc17_89 := hNs89 _ hNc17_93
  have hFc21_89 := (hFo89 21 (by decide)).trans hFc21_96
  have hNc21_89 := hNs89 _ hNc21_93
  have hHs : H.size = z0 + 20 := ck_szs hz89 hHs
  clear hz89
  have hSz : G.2.2.2 ≤ H.size := ck_szle hSz0 hHs
  have hsm : ck_sU F F_89 := fun j hj => (hFo89 j (ck_neU hj (by decide))).trans (hsm j hj)
  have hNL := hNL.one hNo89
  have hsub : ∀ i, N i → N_89 i := fun i h => hNs89 i (hsub i h)
  have hKK := hKK0.keep hS.2.1
  refine lv_dup hx hb dX4_init_92 rfl ?_
  refine ck_cJn (As := []) (rest := [.ref (ad 14), .int (3), .ref (ad 4)]) ⟨hx, hb, hml, hown, hts⟩ hKK (ct_X1_init l G H ad N_89 F_89 hW hSz 14 18 22 (by decide) (by decide) (by decide) hNi89 (hNL.dead (hno 18 (by decide) (by decide)) (by decide)) (hNL.dead (hno 22 (by decide) (by decide)) (by decide)) ((had.2.2.2.2.2.2.2.2.2.2.2.2.2.2.2.2.2.2.2.2.1).trans hHs.symm) ((had.2.2.2.2.2.2.2.2.2.2.2.2.2.2.2.2.2.2.2.2.2).trans (ck_sz1 hHs)) hFe89) ⟨va_cnB 0 hts gX4_init_X1_init_n38 rfl rfl rfl hKK.1.2.2.1.2.1 (hts _ (List.mem_of_getElem? (i := 16) rfl)) (by decide +kernel) ⟨Nat.le_of_ble_eq_true rfl, Nat.le_of_ble_eq_true rfl⟩, rfl, (hts _ (List.mem_of_getElem? (i := 23) rfl))⟩ rfl hl rfl (Nat.le_of_ble_eq_true rfl) dX4_init_93 ⟨Nat.le_of_ble_eq_true rfl, Nat.le_of_ble_eq_true rfl⟩ hS (fun H locs h_93 hz_93 hS => ?_)
  have hKK := hKK0.keep hS.2.1
  obtain ⟨N_93, F_93, hNs93, hNo93, hNj93, hNk93, hFi93, hFj93, hFk93, hFo93, hW, hsz93⟩ := h_93
  have hFc0_93 := (hFo93 0 (by decide) (by decide) (by decide)).trans hFc0_89
  have hNc0_93 := hNs93 _ hNc0_89
  have hFc1_93 := (hFo93 1 (by decide) (by decide) (by decide)).trans hFc1_89
  have hNc1_93 := hNs93 _ hNc1_89
  have hFc2_93 := (hFo93 2 (by decide) (by decide) (by decide)).trans hFc2_89
  have hNc2_93 := hNs93 _ hNc2_89
  have hFc3_93 := (hFo93 3 (by decide) (by decide) (by decide)).trans hFc3_89
  have hNc3_93 := hNs93 _ hNc3_89
  have hFc4_93 := (hFo93 4 (by decide) (by decide) (by decide)).trans hFc4_89
  have hNc4_93 := hNs93 _ hNc4_89
  have hFc5_93 := (hFo93 5 (by decide) (by decide) (by decide)).trans hFc5_89
  have hNc5_93 := hNs93 _ hNc5_89
  have hFc8_93 := (hFo93 8 (by decide) (by decide) (by decide)).trans hFc8_89
  have hNc8_93 := hNs93 _ hNc8_89
  have hFc6_93 := (hFo93 6 (by decide) (by decide) (by decide)).trans hFc6_89
  have hNc6_93 := hNs93 _ hNc6_89
  have hFc9_93 := (hFo93 9 (by decide) (by decide) (by decide)).trans hFc9_89
  have hNc9_93 := hNs93 _ hNc9_89
  have hFc7_93 := (hFo93 7 (by decide) (by decide) (by decide)).trans hFc7_89
  have hNc7_93 := hNs93 _ hNc7_89
  have hFc10_93 := (hFo93 10 (by decide) (by decide) (by decide)).trans hFc10_89
  have hNc10_93 := hNs93 _ hNc10_89
  have hFc11_93 := (hFo93 11 (by decide) (by decide) (by decide)).trans hFc11_89
  have hNc11_93 := hNs93 _ hNc11_89
  have hFc15_93 := (hFo93 15 (by decide) (by decide) (by decide)).trans hFc15_89
  have hNc15_93 := hNs93 _ hNc15_89
  have hFc19_93 := (hFo93 19 (by decide) (by decide) (by decide)).trans hFc19_89
  have hNc19_93 := hNs93 _ hNc19_89
  have hFc12_93 := (hFo93 12 (by decide) (by decide) (by decide)).trans hFc12_89
  have hNc12_93 := hNs93 _ hNc12_89
  have hFc16_93 := (hFo93 16 (by decide) (by decide) (by decide)).trans hFc16_89
  have hNc16_93 := hNs93 _ hNc16_89
  have hFc20_93 := (hFo93 20 (by decide) (by decide) (by decide)).trans hFc20_89
  have hNc20_93 := hNs93 _ hNc20_89
  have hFc13_93 := (hFo93 13 (by decide) (by decide) (by decide)).trans hFc13_89
  have hNc13_93 := hNs93 _ hNc13_89
  have hFc17_93 := (hFo93 17 (by decide) (by decide) (by decide)).trans hFc17_89
  have hNc17_93 := hNs93 _ hNc17_89
  have hFc21_93 := (hFo93 21 (by decide) (by decide) (by decide)).trans hFc21_89
  have hNc21_93 := hNs93 _ hNc21_89
  have hNc14_93 := hNs93 _ hNi89
  have hFc14_93 := hFi93
  have hNc18_93 := hNj93
  have hFc18_93 := hFj93
  have hNc22_93 := hNk93
  have hFc22_93 := hFk93
  have hHs : H.size = z0 + 22 := ck_szs hsz93 hHs
  clear hsz93
  have hSz : G.2.2.2 ≤ H.size := ck_szle hSz0 hHs
  have hNL := hNL.two hNo93
  have hsub : ∀ i, N i → N_93 i := fun i h => hNs93 i (hsub i h)
  have hsm : ck_sU F F_93 := fun j hj => (hFo93 j (ck_neU hj (by decide)) (ck_neU hj (by decide)) (ck_neU hj (by decide))).trans (hsm j hj)
  refine ck_aast (r := (RX1, TX1, 2)) hx hb hK hW hS hNc4_93 hFc4_93 3 rfl 3 (by decide) (by decide) (by decide) hNc14_93 hFc14_93 rfl dX4_init_96 (fun H locs hW hS hz96 => ?_)
  obtain ⟨F_96, hFe96, hFo96, hW⟩ := ck_name hW
  have hHs : H.size = z0 + 22 := hz96.trans hHs
  clear hz96
  have hSz : G.2.2.2 ≤ H.size := ck_szle hSz0 hHs
  have hFc0_96 := (hFo96 0 (by decide)).trans hFc0_93
  have hFc1_96 := (hFo96 1 (by decide)).trans hFc1_93
  have hFc2_96 := (hFo96 2 (by decide)).trans hFc2_93
  have hFc3_96 := (hFo96 3 (by decide)).trans hFc3_93
  have hFc5_96 := (hFo96 5 (by decide)).trans hFc5_93
  have hFc8_96 := (hFo96 8 (by decide)).trans hFc8_93
  have hFc6_96 := (hFo96 6 (by decide)).trans hFc6_93
  have hFc9_96 := (hFo96 9 (by decide)).trans hFc9_93
  have hFc7_96 := (hFo96 7 (by decide)).trans hFc7_93
  have hFc10_96 := (hFo96 10 (by decide)).trans hFc10_93
  have hFc11_96 := (hFo96 11 (by decide)).trans hFc11_93
  have hFc15_96 := (hFo96 15 (by decide)).trans hFc15_93
  have hFc19_96 := (hFo96 19 (by decide)).trans hFc19_93
  have hFc12_96 := (hFo96 12 (by decide)).trans hFc12_93
  have hFc16_96 := (hFo96 16 (by decide)).trans hFc16_93
  have hFc20_96 := (hFo96 20 (by decide)).trans hFc20_93
  have hFc13_96 := (hFo96 13 (by decide)).trans hFc13_93
  have hFc17_96 := (hFo96 17 (by decide)).trans hFc17_93
  have hFc21_96 := (hFo96 21 (by decide)).trans hFc21_93
  have hFc14_96 := (hFo96 14 (by decide)).trans hFc14_93
  have hFc18_96 := (hFo96 18 (by decide)).trans hFc18_93
  have hFc22_96 := (hFo96 22 (by decide)).trans hFc22_93
  have hsm : ck_sU F F_96 := fun j hj => (hFo96 j (ck_neU hj (by decide))).trans (hsm j hj)
  have hKK := hKK0.keep hS.2.1
  refine lv_iinc (v := 4) (lv' := [(1, .int (4)), (0, .ref (ad 0))]) hx hb dX4_init_97 hl (k := 0) rfl (by decide) (by decide) rfl (fun ls hl => ?_)
  refine lv_goto (tgt := 75) hx hb dX4_init_100 (by decide) ?_
  refine lv_iload_n hx hb dX4_init_75 rfl (lv_at hl 0 rfl) ?_
  refine ck_pc (q := 76) rfl ?_
  refine lv_aload_n hx hb dX4_init_76 rfl (lv_at hl 1 rfl) ?_
  refine ck_get (v := .ref (ad 4)) hx hb hts hinX4 hown hK hW hNc0_93 hFc0_96 rfl 7 (by decide) (hts _ (List.mem_of_getElem? (i := 12) rfl)) rfl rfl dX4_init_77 ?_
  refine ck_alen (v := 4) hx hb hK hW hNc4_93 hFe96 3 rfl rfl dX4_init_80 ?_
  refine lv_icmp_ge (tgt := 103) hx hb dX4_init_81 (by decide) (fun _ => ?_) (fun c_81 => absurd (by decide) c_81)
  exact W.vret hx hb hr (fun t ht hW9 => ⟨⟨rfl, by rw [ht]; exact ⟨N_93, F_96, hsub, fun i h z => (hNL i z).elim id (fun e => absurd ((by decide : ∀ x ∈ _, x < 23) i e) (Nat.not_lt.mpr h)), ⟨by decide,
          by decide,
          hFc0_96,
          ⟨_, hFc1_96, ck_all3 rfl rfl rfl⟩,
          ⟨_, hFc2_96, (fun k hk => (if_neg (Nat.not_lt_zero k)).symm)⟩,
          ⟨_, hFc3_96, (fun k hk => (if_neg (Nat.not_lt_zero k)).symm)⟩,
          ⟨_, hFe96, ck_all4 rfl rfl rfl rfl⟩,
          (ck_all3 hFc5_96 hFc6_96 hFc7_96),
          (ck_all3 hFc8_96 hFc9_96 hFc10_96),
          (ck_all4 hFc11_96 hFc12_96 hFc13_96 hFc14_96),
          (ck_all4 hFc15_96 hFc16_96 hFc17_96 hFc18_96),
          (ck_all4 hFc19_96 hFc20_96 hFc21_96 hFc22_96),
          (fun k hk => absurd hk (Nat.not_lt_zero k)),
          (fun k hk => absurd hk (Nat.not_lt_zero k)),
          (ck_all23 hNc0_93 hNc1_93 hNc2_93 hNc3_93 hNc4_93 hNc5_93 hNc6_93 hNc7_93 hNc8_93 hNc9_93 hNc10_93 hNc11_93 hNc12_93 hNc13_93 hNc14_93 hNc15_93 hNc16_93 hNc17_93 hNc18_93 hNc19_93 hNc20_93 hNc21_93 hNc22_93),
          (fun k hk => absurd hk (Nat.not_lt_zero k)),
          (fun k hk => absurd hk (Nat.not_lt_zero k))⟩, hsm, hW, hHs.trans (by rw [hz0])⟩⟩, hS.F ht⟩) hS.2.2 dX4_init_103
