theorem ck_out {i : Nat} (h : i < 30 ∨ 52 ≤ i) : ¬ (30 ≤ i ∧ i < 52) := by omega
set_option maxHeartbeats 4000000 in
set_option maxRecDepth 100000 in
theorem ct_X5_mid2 {p : Program} {l : Launch} {e : Env} {s s₁ : State} {m : MethodId} {args : Array Value} {below : List Frame} {meth : Method} {c : Code} {G : ck_G} {H : Heap} {locs : List Loc} {ad : Nat → Nat} {N N_145 : Nat → Prop} {F F_147 : Nat → va_E} {ls : Array Slot} {z0 : Nat} (B : BodyLoose p l yX5_init (headSpec wsX5_init ({ frames := 1, cells := 21, slots := 1167, locals := 20 })) cX5_init 2 none e s m args below meth c s₁) (hml : c.maxLocals = 2) (hKK0 : ck_K G s.heap s) (hS : va_S (ck_A G) s.heap H locs) (hl : lv_has ls 2 [(0, .ref (ad 30))]) (hno : ∀ i, 31 ≤ i → i < 52 → ¬ N i) (had : ∀ i, 31 ≤ i → i < 52 → ad i = z0 + (i - 31)) (hz0 : z0 = s.heap.size) (hSz0 : G.2.2.2 ≤ z0) (hHs : H.size = z0 + 18) (hNL : ck_NL N N_145 [48, 47, 46, 45, 44, 43, 42, 41, 40, 39, 38, 37, 36, 35, 34, 33, 32, 31]) (hsub : ∀ i, N i → N_145 i) (hsm : ck_sM F F_147) (hW : ck_W G ad N_145 F_147 H) (hNc30_145 : N_145 30) (hFe147 : F_147 30 = .inr (5, [.int 5, .ref (ad 31), .ref (ad 32), .ref (ad 33), .ref (ad 34), .ref (ad 35), .int 0, .ref (ad 36), .ref (ad 37), .ref (ad 38), .ref (ad 39), .ref (ad 40), .ref (ad 41), .ref (ad 42), .int 0, .int 0, .ref (ad 43), .ref (ad 44), .ref (ad 45), .ref (ad 46), .ref (ad 47), .ref (ad 48), .null, .null, .null, .int 0])) (hNc31_145 : N_145 31) (hFc31_147 : F_147 31 = .inl (G.2.1 1, 471, .inr (.inl ((fun _ => 0))))) (hNc32_145 : N_145 32) (hFc32_147 : F_147 32 = .inl (G.2.1 0, 3, .inl ((fun _ => 0)))) (hNc33_145 : N_145 33) (hFc33_147 : F_147 33 = .inl (G.2.1 0, 3, .inl ((fun _ => 0)))) (hNc34_145 : N_145 34) (hFc34_147 : F_147 34 = .inl (G.2.1 0, 3, .inl ((fun _ => 0)))) (hNc35_145 : N_145 35) (hFc35_147 : F_147 35 = .inl (G.2.1 0, 3, .inl ((fun _ => 0)))) (hNc36_145 : N_145 36) (hFc36_147 : F_147 36 = .inl (G.2.1 0, 60, .inl ((fun _ => 0)))) (hNc37_145 : N_145 37) (hFc37_147 : F_147 37 = .inl (G.2.1 0, 60, .inl ((fun _ => 0)))) (hNc38_145 : N_145 38) (hFc38_147 : F_147 38 = .inl (G.2.1 0, 60, .inl ((fun _ => 0)))) (hNc39_145 : N_145 39) (hFc39_147 : F_147 39 = .inl (G.2.1 0, 60, .inl ((fun _ => 0)))) (hNc40_145 : N_145 40) (hFc40_147 : F_147 40 = .inl (G.2.1 0, 60, .inl ((fun _ => 0)))) (hNc41_145 : N_145 41) (hFc41_147 : F_147 41 = .inl (G.2.1 0, 60, .inl ((fun _ => 0)))) (hNc42_145 : N_145 42) (hFc42_147 : F_147 42 = .inl (G.2.1 0, 60, .inl ((fun _ => 0)))) (hNc43_145 : N_145 43) (hFc43_147 : F_147 43 = .inl (G.2.1 0, 30, .inl ((fun _ => 0)))) (hNc44_145 : N_145 44) (hFc44_147 : F_147 44 = .inl (G.2.1 0, 30, .inl ((fun _ => 0)))) (hNc45_145 : N_145 45) (hFc45_147 : F_147 45 = .inl (G.2.1 0, 30, .inl ((fun _ => 0)))) (hNc46_145 : N_145 46) (hFc46_147 : F_147 46 = .inl (G.2.1 0, 30, .inl ((fun _ => 0)))) (hNc47_145 : N_145 47) (hFc47_147 : F_147 47 = .inl (G.2.1 0, 30, .inl ((fun _ => 0)))) (hNi145 : N_145 48) (hFc48_147 : F_147 48 = .inl (G.2.1 0, 30, .inl ((fun _ => 0)))) : W p l e (headSpec wsX5_init ({ frames := 1, cells := 21, slots := 1167, locals := 20 })).room s m args below meth c H locs 18 1083 (MQ below (ck_Qv G (fun H1 => ∃ N1 F1, (∀ i, N i → N1 i) ∧ (∀ i, (i < 30 ∨ 52 ≤ i) → N1 i → N i) ∧ ck_M G ad ck_V0 ck_L0 0 0 0 N1 F1 ∧ ck_sM F F1 ∧ ck_W G ad N1 F1 H1 ∧ H1.size = s.heap.size + 21)) args s 21 1167 (ck_A G)) (F0 m 150 ls []) := by
  have hx := B.exec
  have hb := B.bytes
  have hr := B.returns
  have hts := atoms_spec (ws := wsX5_init) B.pre
  have hown : s.vm.findClass RX5 = some m.cls := findClass_of_methodNamed B.named
  have hlocks := B.notSynchronized
  have hinit : meth.name = "<init>" := (name_of_methodNamed B.named B.method).1
  have hKK := hKK0.keep hS.2.1
  have hK := hKK0.1.1
  have hSz : G.2.2.2 ≤ H.size := ck_szle hSz0 hHs
  have hinX5 : ∀ w ∈ u_ws RX5 TX5 26, w ∈ wsX5_init := by decide +kernel
  refine lv_aload_n hx hb dX5_init_150 rfl (lv_at hl 0 rfl) ?_
  refine lv_iconst (v := 4) hx hb dX5_init_151 (by decide) ?_
  refine ck_pc (q := 152) rfl ?_
  refine ck_newI hx hb (hts _ (List.mem_of_getElem? (i := 7) rfl)) hK hW hS hSz 49 ((hNL.dead (hno 49 (by decide) (by decide)) (by decide))) (((had 49 (by decide) (by decide)).trans hHs.symm)) 4 (by decide) (by decide) (by decide) (Nat.le_of_ble_eq_true rfl) (Nat.le_of_ble_eq_true rfl) dX5_init_152 (fun N_152 F_152 H hNw152 hS hz152 => ?_)
  obtain ⟨hNs152, hNo152, hNi152, hFe152, hFo152, hW⟩ := hNw152
  have hFc30_152 := (hFo152 30 (by decide)).trans hFe147
  have hNc30_152 := hNs152 _ hNc30_145
  have hFc31_152 := (hFo152 31 (by decide)).trans hFc31_147
  have hNc31_152 := hNs152 _ hNc31_145
  have hFc32_152 := (hFo152 32 (by decide)).trans hFc32_147
  have hNc32_152 := hNs152 _ hNc32_145
  have hFc33_152 := (hFo152 33 (by decide)).trans hFc33_147
  have hNc33_152 := hNs152 _ hNc33_145
  have hFc34_152 := (hFo152 34 (by decide)).trans hFc34_147
  have hNc34_152 := hNs152 _ hNc34_145
  have hFc35_152 := (hFo152 35 (by decide)).trans hFc35_147
  have hNc35_152 := hNs152 _ hNc35_145
  have hFc36_152 := (hFo152 36 (by decide)).trans hFc36_147
  have hNc36_152 := hNs152 _ hNc36_145
  have hFc37_152 := (hFo152 37 (by decide)).trans hFc37_147
  have hNc37_152 := hNs152 _ hNc37_145
  have hFc38_152 := (hFo152 38 (by decide)).trans hFc38_147
  have hNc38_152 := hNs152 _ hNc38_145
  have hFc39_152 := (hFo152 39 (by decide)).trans hFc39_147
  have hNc39_152 := hNs152 _ hNc39_145
  have hFc40_152 := (hFo152 40 (by decide)).trans hFc40_147
  have hNc40_152 := hNs152 _ hNc40_145
  have hFc41_152 := (hFo152 41 (by decide)).trans hFc41_147
  have hNc41_152 := hNs152 _ hNc41_145
  have hFc42_152 := (hFo152 42 (by decide)).trans hFc42_147
  have hNc42_152 := hNs152 _ hNc42_145
  have hFc43_152 := (hFo152 43 (by decide)).trans hFc43_147
  have hNc43_152 := hNs152 _ hNc43_145
  have hFc44_152 := (hFo152 44 (by decide)).trans hFc44_147
  have hNc44_152 := hNs152 _ hNc44_145
  have hFc45_152 := (hFo152 45 (by decide)).trans hFc45_147
  have hNc45_152 := hNs152 _ hNc45_145
  have hFc46_152 := (hFo152 46 (by decide)).trans hFc46_147
  have hNc46_152 := hNs152 _ hNc46_145
  have hFc47_152 := (hFo152 47 (by decide)).trans hFc47_147
  have hNc47_152 := hNs152 _ hNc47_145
  have hFc48_152 := (hFo152 48 (by decide)).trans hFc48_147
  have hNc48_152 := hNs152 _ hNi145
  have hHs : H.size = z0 + 19 := ck_szs hz152 hHs
  clear hz152
  have hSz : G.2.2.2 ≤ H.size := ck_szle hSz0 hHs
  have hsm : ck_sM F F_152 := fun j hj => (hFo152 j (ck_neM hj (by decide))).trans (hsm j hj)
  have hNL := hNL.one hNo152
  have hsub : ∀ i, N i → N_152 i := fun i h => hNs152 i (hsub i h)
  have hKK := hKK0.keep hS.2.1
  clear hNo152 hNs152 hFo152 hFe147 hNc30_145 hFc31_147 hNc31_145 hFc32_147 hNc32_145 hFc33_147 hNc33_145 hFc34_147 hNc34_145 hFc35_147 hNc35_145 hFc36_147 hNc36_145 hFc37_147 hNc37_145 hFc38_147 hNc38_145 hFc39_147 hNc39_145 hFc40_147 hNc40_145 hFc41_147 hNc41_145 hFc42_147 hNc42_145 hFc43_147 hNc43_145 hFc44_147 hNc44_145 hFc45_147 hNc45_145 hFc46_147 hNc46_145 hFc47_147 hNc47_145 hFc48_147 hNi145
  refine ck_putF (v := .ref (ad 49)) (ty := (tyX5 22)) hx hb hts hinX5 tyX5 tyX5_ok nmX5 hown hK hW hS hNc30_152 hFc30_152 rfl 22 (by decide) (hts _ (List.mem_of_getElem? (i := 25) rfl)) rfl rfl hinit rfl (by decide +kernel) rfl rfl (Nat.le_of_ble_eq_true rfl) dX5_init_154 (fun H locs hW hS hz154 => ?_)
  obtain ⟨F_154, hFe154, hFo154, hW⟩ := ck_name hW
  have hHs : H.size = z0 + 19 := hz154.trans hHs
  clear hz154
  have hSz : G.2.2.2 ≤ H.size := ck_szle hSz0 hHs
  have hFc31_154 := (hFo154 31 (by decide)).trans hFc31_152
  have hFc32_154 := (hFo154 32 (by decide)).trans hFc32_152
  have hFc33_154 := (hFo154 33 (by decide)).trans hFc33_152
  have hFc34_154 := (hFo154 34 (by decide)).trans hFc34_152
  have hFc35_154 := (hFo154 35 (by decide)).trans hFc35_152
  have hFc36_154 := (hFo154 36 (by decide)).trans hFc36_152
  have hFc37_154 := (hFo154 37 (by decide)).trans hFc37_152
  have hFc38_154 := (hFo154 38 (by decide)).trans hFc38_152
  have hFc39_154 := (hFo154 39 (by decide)).trans hFc39_152
  have hFc40_154 := (hFo154 40 (by decide)).trans hFc40_152
  have hFc41_154 := (hFo154 41 (by decide)).trans hFc41_152
  have hFc42_154 := (hFo154 42 (by decide)).trans hFc42_152
  have hFc43_154 := (hFo154 43 (by decide)).trans hFc43_152
  have hFc44_154 := (hFo154 44 (by decide)).trans hFc44_152
  have hFc45_154 := (hFo154 45 (by decide)).trans hFc45_152
  have hFc46_154 := (hFo154 46 (by decide)).trans hFc46_152
  have hFc47_154 := (hFo154 47 (by decide)).trans hFc47_152
  have hFc48_154 := (hFo154 48 (by decide)).trans hFc48_152
  have hFc49_154 := (hFo154 49 (by decide)).trans hFe152
  have hsm : ck_sM F F_154 := fun j hj => (hFo154 j (ck_neM hj (by decide))).trans (hsm j hj)
  have hKK := hKK0.keep hS.2.1
  clear hFo154 hFc31_152 hFc32_152 hFc33_152 hFc34_152 hFc35_152 hFc36_152 hFc37_152 hFc38_152 hFc39_152 hFc40_152 hFc41_152 hFc42_152 hFc43_152 hFc44_152 hFc45_152 hFc46_152 hFc47_152 hFc48_152 hFe152 hFc30_152
  refine lv_aload_n hx hb dX5_init_157 rfl (lv_at hl 0 rfl) ?_
  refine lv_bipush (v := 40) hx hb dX5_init_158 (by decide) ?_
  refine ck_newI hx hb (hts _ (List.mem_of_getElem? (i := 7) rfl)) hK hW hS hSz 50 ((hNL.dead (hno 50 (by decide) (by decide)) (by decide))) (((had 50 (by decide) (by decide)).trans hHs.symm)) 40 (by decide) (by decide) (by decide) (Nat.le_of_ble_eq_true rfl) (Nat.le_of_ble_eq_true rfl) dX5_init_160 (fun N_160 F_160 H hNw160 hS hz160 => ?_)
  obtain ⟨hNs160, hNo160, hNi160, hFe160, hFo160, hW⟩ := hNw160
  have hFc30_160 := (hFo160 30 (by decide)).trans hFe154
  have hNc30_160 := hNs160 _ hNc30_152
  have hFc31_160 := (hFo160 31 (by decide)).trans hFc31_154
  have hNc31_160 := hNs160 _ hNc31_152
  have hFc32_160 := (hFo160 32 (by decide)).trans hFc32_154
  have hNc32_160 := hNs160 _ hNc32_152
  have hFc33_160 := (hFo160 33 (by decide)).trans hFc33_154
  have hNc33_160 := hNs160 _ hNc33_152
  have hFc34_160 := (hFo160 34 (by decide)).trans hFc34_154
  have hNc34_160 := hNs160 _ hNc34_152
  have hFc35_160 := (hFo160 35 (by decide)).trans hFc35_154
  have hNc35_160 := hNs160 _ hNc35_152
  have hFc36_160 := (hFo160 36 (by decide)).trans hFc36_154
  have hNc36_160 := hNs160 _ hNc36_152
  have hFc37_160 := (hFo160 37 (by decide)).trans hFc37_154
  have hNc37_160 := hNs160 _ hNc37_152
  have hFc38_160 := (hFo160 38 (by decide)).trans hFc38_154
  have hNc38_160 := hNs160 _ hNc38_152
  have hFc39_160 := (hFo160 39 (by decide)).trans hFc39_154
  have hNc39_160 := hNs160 _ hNc39_152
  have hFc40_160 := (hFo160 40 (by decide)).trans hFc40_154
  have hNc40_160 := hNs160 _ hNc40_152
  have hFc41_160 := (hFo160 41 (by decide)).trans hFc41_154
  have hNc41_160 := hNs160 _ hNc41_152
  have hFc42_160 := (hFo160 42 (by decide)).trans hFc42_154
  have hNc42_160 := hNs160 _ hNc42_152
  have hFc43_160 := (hFo160 43 (by decide)).trans hFc43_154
  have hNc43_160 := hNs160 _ hNc43_152
  have hFc44_160 := (hFo160 44 (by decide)).trans hFc44_154
  have hNc44_160 := hNs160 _ hNc44_152
  have hFc45_160 := (hFo160 45 (by decide)).trans hFc45_154
  have hNc45_160 := hNs160 _ hNc45_152
  have hFc46_160 := (hFo160 46 (by decide)).trans hFc46_154
  have hNc46_160 := hNs160 _ hNc46_152
  have hFc47_160 := (hFo160 47 (by decide)).trans hFc47_154
  have hNc47_160 := hNs160 _ hNc47_152
  have hFc48_160 := (hFo160 48 (by decide)).trans hFc48_154
  have hNc48_160 := hNs160 _ hNc48_152
  have hFc49_160 := (hFo160 49 (by decide)).trans hFc49_154
  have hNc49_160 := hNs160 _ hNi152
  have hHs : H.size = z0 + 20 := ck_szs hz160 hHs
  clear hz160
  have hSz : G.2.2.2 ≤ H.size := ck_szle hSz0 hHs
  have hsm : ck_sM F F_160 := fun j hj => (hFo160 j (ck_neM hj (by decide))).trans (hsm j hj)
  have hNL := hNL.one hNo160
  have hsub : ∀ i, N i → N_160 i := fun i h => hNs160 i (hsub i h)
  have hKK := hKK0.keep hS.2.1
  clear hNo160 hNs160 hFo160 hFe154 hNc30_152 hFc31_154 hNc31_152 hFc32_154 hNc32_152 hFc33_154 hNc33_152 hFc34_154 hNc34_152 hFc35_154 hNc35_152 hFc36_154 hNc36_152 hFc37_154 hNc37_152 hFc38_154 hNc38_152 hFc39_154 hNc39_152 hFc40_154 hNc40_152 hFc41_154 hNc41_152 hFc42_154 hNc42_152 hFc43_154 hNc43_152 hFc44_154 hNc44_152 hFc45_154 hNc45_152 hFc46_154 hNc46_152 hFc47_154 hNc47_152 hFc48_154 hNc48_152 hFc49_154 hNi152
  refine ck_putF (v := .ref (ad 50)) (ty := (tyX5 23)) hx hb hts hinX5 tyX5 tyX5_ok nmX5 hown hK hW hS hNc30_160 hFc30_160 rfl 23 (by decide) (hts _ (List.mem_of_getElem? (i := 26) rfl)) rfl rfl hinit rfl (by decide +kernel) rfl rfl (Nat.le_of_ble_eq_true rfl) dX5_init_162 (fun H locs hW hS hz162 => ?_)
  obtain ⟨F_162, hFe162, hFo162, hW⟩ := ck_name hW
  have hHs : H.size = z0 + 20 := hz162.trans hHs
  clear hz162
  have hSz : G.2.2.2 ≤ H.size := ck_szle hSz0 hHs
  have hFc31_162 := (hFo162 31 (by decide)).trans hFc31_160
  have hFc32_162 := (hFo162 32 (by decide)).trans hFc32_160
  have hFc33_162 := (hFo162 33 (by decide)).trans hFc33_160
  have hFc34_162 := (hFo162 34 (by decide)).trans hFc34_160
  have hFc35_162 := (hFo162 35 (by decide)).trans hFc35_160
  have hFc36_162 := (hFo162 36 (by decide)).trans hFc36_160
  have hFc37_162 := (hFo162 37 (by decide)).trans hFc37_160
  have hFc38_162 := (hFo162 38 (by decide)).trans hFc38_160
  have hFc39_162 := (hFo162 39 (by decide)).trans hFc39_160
  have hFc40_162 := (hFo162 40 (by decide)).trans hFc40_160
  have hFc41_162 := (hFo162 41 (by decide)).trans hFc41_160
  have hFc42_162 := (hFo162 42 (by decide)).trans hFc42_160
  have hFc43_162 := (hFo162 43 (by decide)).trans hFc43_160
  have hFc44_162 := (hFo162 44 (by decide)).trans hFc44_160
  have hFc45_162 := (hFo162 45 (by decide)).trans hFc45_160
  have hFc46_162 := (hFo162 46 (by decide)).trans hFc46_160
  have hFc47_162 := (hFo162 47 (by decide)).trans hFc47_160
  have hFc48_162 := (hFo162 48 (by decide)).trans hFc48_160
  have hFc49_162 := (hFo162 49 (by decide)).trans hFc49_160
  have hFc50_162 := (hFo162 50 (by decide)).trans hFe160
  have hsm : ck_sM F F_162 := fun j hj => (hFo162 j (ck_neM hj (by decide))).trans (hsm j hj)
  have hKK := hKK0.keep hS.2.1
  clear hFo162 hFc31_160 hFc32_160 hFc33_160 hFc34_160 hFc35_160 hFc36_160 hFc37_160 hFc38_160 hFc39_160 hFc40_160 hFc41_160 hFc42_160 hFc43_160 hFc44_160 hFc45_160 hFc46_160 hFc47_160 hFc48_160 hFc49_160 hFe160 hFc30_160
  refine lv_aload_n hx hb dX5_init_165 rfl (lv_at hl 0 rfl) ?_
  refine lv_bipush (v := 40) hx hb dX5_init_166 (by decide) ?_
  refine ck_newI hx hb (hts _ (List.mem_of_getElem? (i := 7) rfl)) hK hW hS hSz 51 ((hNL.dead (hno 51 (by decide) (by decide)) (by decide))) (((had 51 (by decide) (by decide)).trans hHs.symm)) 40 (by decide) (by decide) (by decide) (Nat.le_of_ble_eq_true rfl) (Nat.le_of_ble_eq_true rfl) dX5_init_168 (fun N_168 F_168 H hNw168 hS hz168 => ?_)
  obtain ⟨hNs168, hNo168, hNi168, hFe168, hFo168, hW⟩ := hNw168
  have hFc30_168 := (hFo168 30 (by decide)).trans hFe162
  have hNc30_168 := hNs168 _ hNc30_160
  have hFc31_168 := (hFo168 31 (by decide)).trans hFc31_162
  have hNc31_168 := hNs168 _ hNc31_160
  have hFc32_168 := (hFo168 32 (by decide)).trans hFc32_162
  have hNc32_168 := hNs168 _ hNc32_160
  have hFc33_168 := (hFo168 33 (by decide)).trans hFc33_162
  have hNc33_168 := hNs168 _ hNc33_160
  have hFc34_168 := (hFo168 34 (by decide)).trans hFc34_162
  have hNc34_168 := hNs168 _ hNc34_160
  have hFc35_168 := (hFo168 35 (by decide)).trans hFc35_162
  have hNc35_168 := hNs168 _ hNc35_160
  have hFc36_168 := (hFo168 36 (by decide)).trans hFc36_162
  have hNc36_168 := hNs168 _ hNc36_160
  have hFc37_168 := (hFo168 37 (by decide)).trans hFc37_162
  have hNc37_168 := hNs168 _ hNc37_160
  have hFc38_168 := (hFo168 38 (by decide)).trans hFc38_162
  have hNc38_168 := hNs168 _ hNc38_160
  have hFc39_168 := (hFo168 39 (by decide)).trans hFc39_162
  have hNc39_168 := hNs168 _ hNc39_160
  have hFc40_168 := (hFo168 40 (by decide)).trans hFc40_162
  have hNc40_168 := hNs168 _ hNc40_160
  have hFc41_168 := (hFo168 41 (by decide)).trans hFc41_162
  have hNc41_168 := hNs168 _ hNc41_160
  have hFc42_168 := (hFo168 42 (by decide)).trans hFc42_162
  have hNc42_168 := hNs168 _ hNc42_160
  have hFc43_168 := (hFo168 43 (by decide)).trans hFc43_162
  have hNc43_168 := hNs168 _ hNc43_160
  have hFc44_168 := (hFo168 44 (by decide)).trans hFc44_162
  have hNc44_168 := hNs168 _ hNc44_160
  have hFc45_168 := (hFo168 45 (by decide)).trans hFc45_162
  have hNc45_168 := hNs168 _ hNc45_160
  have hFc46_168 := (hFo168 46 (by decide)).trans hFc46_162
  have hNc46_168 := hNs168 _ hNc46_160
  have hFc47_168 := (hFo168 47 (by decide)).trans hFc47_162
  have hNc47_168 := hNs168 _ hNc47_160
  have hFc48_168 := (hFo168 48 (by decide)).trans hFc48_162
  have hNc48_168 := hNs168 _ hNc48_160
  have hFc49_168 := (hFo168 49 (by decide)).trans hFc49_162
  have hNc49_168 := hNs168 _ hNc49_160
  have hFc50_168 := (hFo168 50 (by decide)).trans hFc50_162
  have hNc50_168 := hNs168 _ hNi160
  have hHs : H.size = z0 + 21 := ck_szs hz168 hHs
  clear hz168
  have hSz : G.2.2.2 ≤ H.size := ck_szle hSz0 hHs
  have hsm : ck_sM F F_168 := fun j hj => (hFo168 j (ck_neM hj (by decide))).trans (hsm j hj)
  have hNL := hNL.one hNo168
  have hsub : ∀ i, N i → N_168 i := fun i h => hNs168 i (hsub i h)
  have hKK := hKK0.keep hS.2.1
  clear hNo168 hNs168 hFo168 hFe162 hNc30_160 hFc31_162 hNc31_160 hFc32_162 hNc32_160 hFc33_162 hNc33_160 hFc34_162 hNc34_160 hFc35_162 hNc35_160 hFc36_162 hNc36_160 hFc37_162 hNc37_160 hFc38_162 hNc38_160 hFc39_162 hNc39_160 hFc40_162 hNc40_160 hFc41_162 hNc41_160 hFc42_162 hNc42_160 hFc43_162 hNc43_160 hFc44_162 hNc44_160 hFc45_162 hNc45_160 hFc46_162 hNc46_160 hFc47_162 hNc47_160 hFc48_162 hNc48_160 hFc49_162 hNc49_160 hFc50_162 hNi160
  refine ck_putF (v := .ref (ad 51)) (ty := (tyX5 24)) hx hb hts hinX5 tyX5 tyX5_ok nmX5 hown hK hW hS hNc30_168 hFc30_168 rfl 24 (by decide) (hts _ (List.mem_of_getElem? (i := 27) rfl)) rfl rfl hinit rfl (by decide +kernel) rfl rfl (Nat.le_of_ble_eq_true rfl) dX5_init_170 (fun H locs hW hS hz170 => ?_)
  obtain ⟨F_170, hFe170, hFo170, hW⟩ := ck_name hW
  have hHs : H.size = z0 + 21 := hz170.trans hHs
  clear hz170
  have hSz : G.2.2.2 ≤ H.size := ck_szle hSz0 hHs
  have hFc31_170 := (hFo170 31 (by decide)).trans hFc31_168
  have hFc32_170 := (hFo170 32 (by decide)).trans hFc32_168
  have hFc33_170 := (hFo170 33 (by decide)).trans hFc33_168
  have hFc34_170 := (hFo170 34 (by decide)).trans hFc34_168
  have hFc35_170 := (hFo170 35 (by decide)).trans hFc35_168
  have hFc36_170 := (hFo170 36 (by decide)).trans hFc36_168
  have hFc37_170 := (hFo170 37 (by decide)).trans hFc37_168
  have hFc38_170 := (hFo170 38 (by decide)).trans hFc38_168
  have hFc39_170 := (hFo170 39 (by decide)).trans hFc39_168
  have hFc40_170 := (hFo170 40 (by decide)).trans hFc40_168
  have hFc41_170 := (hFo170 41 (by decide)).trans hFc41_168
  have hFc42_170 := (hFo170 42 (by decide)).trans hFc42_168
  have hFc43_170 := (hFo170 43 (by decide)).trans hFc43_168
  have hFc44_170 := (hFo170 44 (by decide)).trans hFc44_168
  have hFc45_170 := (hFo170 45 (by decide)).trans hFc45_168
  have hFc46_170 := (hFo170 46 (by decide)).trans hFc46_168
  have hFc47_170 := (hFo170 47 (by decide)).trans hFc47_168
  have hFc48_170 := (hFo170 48 (by decide)).trans hFc48_168
  have hFc49_170 := (hFo170 49 (by decide)).trans hFc49_168
  have hFc50_170 := (hFo170 50 (by decide)).trans hFc50_168
  have hFc51_170 := (hFo170 51 (by decide)).trans hFe168
  have hsm : ck_sM F F_170 := fun j hj => (hFo170 j (ck_neM hj (by decide))).trans (hsm j hj)
  have hKK := hKK0.keep hS.2.1
  clear hFo170 hFc31_168 hFc32_168 hFc33_168 hFc34_168 hFc35_168 hFc36_168 hFc37_168 hFc38_168 hFc39_168 hFc40_168 hFc41_168 hFc42_168 hFc43_168 hFc44_168 hFc45_168 hFc46_168 hFc47_168 hFc48_168 hFc49_168 hFc50_168 hFe168 hFc30_168
  refine ck_pc (q := 173) rfl ?_
  refine lv_iconst (v := 0) hx hb dX5_init_173 (by decide) ?_
  refine lv_istore_n (lv' := [(1, .int 0), (0, .ref (ad 30))]) hx hb dX5_init_174 rfl hl (by decide) rfl (fun ls hl => ?_)
  refine ck_loopW (P := fun ls H locs => W p l e _ s m _ below meth c H locs _ _ _ (F0 m _ ls _)) 60 (fun k => [(1, .int (nI k)), (0, .ref (ad 30))]) (fun k H locs => va_S (ck_A G) s.heap H locs ∧ ∃ F1, ck_W G ad N_168 F1 H ∧ F1 41 = .inl (G.2.1 0, 60, .inl (fun j => if j < k then (-1 : Int32) else 0)) ∧ (∀ j, j ≠ 41 → F1 j = F_170 j) ∧ H.size = z0 + 21) (lv_sub hl [0, 1] rfl) ⟨hS, F_170, hW, hFc41_170, fun _ _ => rfl, hHs⟩ ?_ ?_
  · intro ls H locs hl hI175
    obtain ⟨hS, F_l, hW, hb41, hso175, hHs⟩ := hI175
    have hKK := hKK0.keep hS.2.1
    have hSz : G.2.2.2 ≤ H.size := ck_szle hSz0 hHs
    have hl : lv_has ls 2 [(1, .int (nI 60)), (0, .ref (ad 30))] := hl
    have hFc30_l := (hso175 30 (by decide)).trans hFe170
    have hFc31_l := (hso175 31 (by decide)).trans hFc31_170
    have hFc32_l := (hso175 32 (by decide)).trans hFc32_170
    have hFc33_l := (hso175 33 (by decide)).trans hFc33_170
    have hFc34_l := (hso175 34 (by decide)).trans hFc34_170
    have hFc35_l := (hso175 35 (by decide)).trans hFc35_170
    have hFc36_l := (hso175 36 (by decide)).trans hFc36_170
    have hFc37_l := (hso175 37 (by decide)).trans hFc37_170
    have hFc38_l := (hso175 38 (by decide)).trans hFc38_170
    have hFc39_l := (hso175 39 (by decide)).trans hFc39_170
    have hFc40_l := (hso175 40 (by decide)).trans hFc40_170
    have hFc42_l := (hso175 42 (by decide)).trans hFc42_170
    have hFc43_l := (hso175 43 (by decide)).trans hFc43_170
    have hFc44_l := (hso175 44 (by decide)).trans hFc44_170
    have hFc45_l := (hso175 45 (by decide)).trans hFc45_170
    have hFc46_l := (hso175 46 (by decide)).trans hFc46_170
    have hFc47_l := (hso175 47 (by decide)).trans hFc47_170
    have hFc48_l := (hso175 48 (by decide)).trans hFc48_170
    have hFc49_l := (hso175 49 (by decide)).trans hFc49_170
    have hFc50_l := (hso175 50 (by decide)).trans hFc50_170
    have hFc51_l := (hso175 51 (by decide)).trans hFc51_170
    have hsm : ck_sM F F_l := fun j hj => (hso175 j (ck_neM hj (by decide))).trans (hsm j hj)
    refine lv_iload_n hx hb dX5_init_175 rfl (lv_at hl 0 rfl) ?_
    refine lv_bipush (v := 60) hx hb dX5_init_176 (by decide) ?_
    refine lv_icmp_ge (tgt := 194) hx hb dX5_init_178 (by decide) (fun _ => ?_) (fun c_178 => absurd (Int32.le_refl _) c_178)
    exact W.vret hx hb hr (fun t ht hW9 => ⟨⟨rfl, by rw [ht]; exact ⟨N_168, F_l, hsub, fun i h z => (hNL i z).elim id (fun e => absurd ((by decide : ∀ x ∈ _, 30 ≤ x ∧ x < 52) i e) (ck_out h)), ⟨by decide,
          by decide,
          hFc30_l,
          ⟨_, hFc31_l, (fun q w h1 h2 => rfl)⟩,
          hFc32_l,
          hFc33_l,
          hFc34_l,
          hFc35_l,
          hFc36_l,
          hFc37_l,
          hFc38_l,
          hFc39_l,
          hFc40_l,
          hb41.trans (by rw [show ck_V0 5 = (fun j => if j < 60 then (-1 : Int32) else 0) from rfl]),
          hFc42_l,
          hFc43_l,
          hFc44_l,
          hFc45_l,
          hFc46_l,
          hFc47_l,
          hFc48_l,
          hFc49_l,
          hFc50_l,
          hFc51_l,
          (ck_all52 hNc30_168 hNc31_168 hNc32_168 hNc33_168 hNc34_168 hNc35_168 hNc36_168 hNc37_168 hNc38_168 hNc39_168 hNc40_168 hNc41_168 hNc42_168 hNc43_168 hNc44_168 hNc45_168 hNc46_168 hNc47_168 hNc48_168 hNc49_168 hNc50_168 hNi168)⟩, hsm, hW, hHs.trans (by rw [hz0])⟩⟩, hS.F ht⟩) hS.2.2 dX5_init_194
  · intro k175 hk175 ih175 ls H locs hl hI175
    obtain ⟨hS, F_l, hW, hb41, hso175, hHs⟩ := hI175
    have hKK := hKK0.keep hS.2.1
    have hSz : G.2.2.2 ≤ H.size := ck_szle hSz0 hHs
    have hl : lv_has ls 2 [(1, .int (nI k175)), (0, .ref (ad 30))] := hl
    have hFc30_l := (hso175 30 (by decide)).trans hFe170
    have hFc31_l := (hso175 31 (by decide)).trans hFc31_170
    have hFc32_l := (hso175 32 (by decide)).trans hFc32_170
    have hFc33_l := (hso175 33 (by decide)).trans hFc33_170
    have hFc34_l := (hso175 34 (by decide)).trans hFc34_170
    have hFc35_l := (hso175 35 (by decide)).trans hFc35_170
    have hFc36_l := (hso175 36 (by decide)).trans hFc36_170
    have hFc37_l := (hso175 37 (by decide)).trans hFc37_170
    have hFc38_l := (hso175 38 (by decide)).trans hFc38_170
    have hFc39_l := (hso175 39 (by decide)).trans hFc39_170
    have hFc40_l := (hso175 40 (by decide)).trans hFc40_170
    have hFc42_l := (hso175 42 (by decide)).trans hFc42_170
    have hFc43_l := (hso175 43 (by decide)).trans hFc43_170
    have hFc44_l := (hso175 44 (by decide)).trans hFc44_170
    have hFc45_l := (hso175 45 (by decide)).trans hFc45_170
    have hFc46_l := (hso175 46 (by decide)).trans hFc46_170
    have hFc47_l := (hso175 47 (by decide)).trans hFc47_170
    have hFc48_l := (hso175 48 (by decide)).trans hFc48_170
    have hFc49_l := (hso175 49 (by decide)).trans hFc49_170
    have hFc50_l := (hso175 50 (by decide)).trans hFc50_170
    have hFc51_l := (hso175 51 (by decide)).trans hFc51_170
    have hsm : ck_sM F F_l := fun j hj => (hso175 j (ck_neM hj (by decide))).trans (hsm j hj)
    refine lv_iload_n hx hb dX5_init_175 rfl (lv_at hl 0 rfl) ?_
    refine lv_bipush (v := 60) hx hb dX5_init_176 (by decide) ?_
    refine lv_icmp_ge (tgt := 194) hx hb dX5_init_178 (by decide) (fun c_178 => absurd c_178 (nI_ge hk175 (by decide))) (fun _ => ?_)
    refine lv_aload_n hx hb dX5_init_181 rfl (lv_at hl 1 rfl) ?_
    refine ck_get (v := .ref (ad 41)) hx hb hts hinX5 hown hK hW hNc30_168 hFc30_l rfl 12 (by decide) (hts _ (List.mem_of_getElem? (i := 17) rfl)) rfl rfl dX5_init_182 ?_
    refine lv_iload_n hx hb dX5_init_185 rfl (lv_at hl 0 rfl) ?_
    refine lv_iconst (v := (-1)) hx hb dX5_init_186 (by decide) ?_
    refine ck_iast hx hb hK hW hS hNc41_168 hb41 k175 (rfl) (by omega) (by decide) dX5_init_187 (fun H locs hW hS hz187 => ?_)
    obtain ⟨F_187, hFe187, hFo187, hW⟩ := ck_name hW
    have hHs : H.size = z0 + 21 := hz187.trans hHs
    clear hz187
    have hSz : G.2.2.2 ≤ H.size := ck_szle hSz0 hHs
    have hFc30_187 := (hFo187 30 (by decide)).trans hFc30_l
    have hFc31_187 := (hFo187 31 (by decide)).trans hFc31_l
    have hFc32_187 := (hFo187 32 (by decide)).trans hFc32_l
    have hFc33_187 := (hFo187 33 (by decide)).trans hFc33_l
    have hFc34_187 := (hFo187 34 (by decide)).trans hFc34_l
    have hFc35_187 := (hFo187 35 (by decide)).trans hFc35_l
    have hFc36_187 := (hFo187 36 (by decide)).trans hFc36_l
    have hFc37_187 := (hFo187 37 (by decide)).trans hFc37_l
    have hFc38_187 := (hFo187 38 (by decide)).trans hFc38_l
    have hFc39_187 := (hFo187 39 (by decide)).trans hFc39_l
    have hFc40_187 := (hFo187 40 (by decide)).trans hFc40_l
    have hFc42_187 := (hFo187 42 (by decide)).trans hFc42_l
    have hFc43_187 := (hFo187 43 (by decide)).trans hFc43_l
    have hFc44_187 := (hFo187 44 (by decide)).trans hFc44_l
    have hFc45_187 := (hFo187 45 (by decide)).trans hFc45_l
    have hFc46_187 := (hFo187 46 (by decide)).trans hFc46_l
    have hFc47_187 := (hFo187 47 (by decide)).trans hFc47_l
    have hFc48_187 := (hFo187 48 (by decide)).trans hFc48_l
    have hFc49_187 := (hFo187 49 (by decide)).trans hFc49_l
    have hFc50_187 := (hFo187 50 (by decide)).trans hFc50_l
    have hFc51_187 := (hFo187 51 (by decide)).trans hFc51_l
    have hsm : ck_sM F F_187 := fun j hj => (hFo187 j (ck_neM hj (by decide))).trans (hsm j hj)
    have hKK := hKK0.keep hS.2.1
    refine ck_pc (q := 188) rfl ?_
    refine lv_iinc (v := nI (k175 + 1)) (lv' := [(1, .int (nI (k175 + 1))), (0, .ref (ad 30))]) hx hb dX5_init_188 hl (k := 0) rfl (nI_1 k175) (by decide) rfl (fun ls hl => ?_)
    refine lv_goto (tgt := 175) hx hb dX5_init_191 (by decide) ?_
    have e9 : upd (fun j => if j < k175 then (-1 : Int32) else 0) k175 (-1) = fun j => if j < k175 + 1 then (-1 : Int32) else 0 := by
      funext j; by_cases h : j = k175
      · subst h; simp [upd]
      · simp only [upd, if_neg h, show (j < k175 + 1) = (j < k175) by simp; omega]
    exact ih175 ls H locs (lv_sub hl [0, 1] rfl) ⟨hS, F_187, hW, hFe187.trans (by rw [e9]), (fun j hj => (hFo187 j hj).trans (hso175 j hj)), hHs⟩
set_option maxHeartbeats 4000000 in
set_option maxRecDepth 100000 in
theorem ct_X5_mid1 {p : Program} {l : Launch} {e : Env} {s s₁ : State} {m : MethodId} {args : Array Value} {below : List Frame} {meth : Method} {c : Code} {G : ck_G} {H : Heap} {locs : List Loc} {ad : Nat → Nat} {N N_113 : Nat → Prop} {F F_115 : Nat → va_E} {ls : Array Slot} {z0 : Nat} (B : BodyLoose p l yX5_init (headSpec wsX5_init ({ frames := 1, cells := 21, slots := 1167, locals := 20 })) cX5_init 2 none e s m args below meth c s₁) (hml : c.maxLocals = 2) (hKK0 : ck_K G s.heap s) (hS : va_S (ck_A G) s.heap H locs) (hl : lv_has ls 2 [(0, .ref (ad 30))]) (hno : ∀ i, 31 ≤ i → i < 52 → ¬ N i) (had : ∀ i, 31 ≤ i → i < 52 → ad i = z0 + (i - 31)) (hz0 : z0 = s.heap.size) (hSz0 : G.2.2.2 ≤ z0) (hHs : H.size = z0 + 14) (hNL : ck_NL N N_113 [44, 43, 42, 41, 40, 39, 38, 37, 36, 35, 34, 33, 32, 31]) (hsub : ∀ i, N i → N_113 i) (hsm : ck_sM F F_115) (hW : ck_W G ad N_113 F_115 H) (hNc30_113 : N_113 30) (hFe115 : F_115 30 = .inr (5, [.int 5, .ref (ad 31), .ref (ad 32), .ref (ad 33), .ref (ad 34), .ref (ad 35), .int 0, .ref (ad 36), .ref (ad 37), .ref (ad 38), .ref (ad 39), .ref (ad 40), .ref (ad 41), .ref (ad 42), .int 0, .int 0, .ref (ad 43), .ref (ad 44), .null, .null, .null, .null, .null, .null, .null, .int 0])) (hNc31_113 : N_113 31) (hFc31_115 : F_115 31 = .inl (G.2.1 1, 471, .inr (.inl ((fun _ => 0))))) (hNc32_113 : N_113 32) (hFc32_115 : F_115 32 = .inl (G.2.1 0, 3, .inl ((fun _ => 0)))) (hNc33_113 : N_113 33) (hFc33_115 : F_115 33 = .inl (G.2.1 0, 3, .inl ((fun _ => 0)))) (hNc34_113 : N_113 34) (hFc34_115 : F_115 34 = .inl (G.2.1 0, 3, .inl ((fun _ => 0)))) (hNc35_113 : N_113 35) (hFc35_115 : F_115 35 = .inl (G.2.1 0, 3, .inl ((fun _ => 0)))) (hNc36_113 : N_113 36) (hFc36_115 : F_115 36 = .inl (G.2.1 0, 60, .inl ((fun _ => 0)))) (hNc37_113 : N_113 37) (hFc37_115 : F_115 37 = .inl (G.2.1 0, 60, .inl ((fun _ => 0)))) (hNc38_113 : N_113 38) (hFc38_115 : F_115 38 = .inl (G.2.1 0, 60, .inl ((fun _ => 0)))) (hNc39_113 : N_113 39) (hFc39_115 : F_115 39 = .inl (G.2.1 0, 60, .inl ((fun _ => 0)))) (hNc40_113 : N_113 40) (hFc40_115 : F_115 40 = .inl (G.2.1 0, 60, .inl ((fun _ => 0)))) (hNc41_113 : N_113 41) (hFc41_115 : F_115 41 = .inl (G.2.1 0, 60, .inl ((fun _ => 0)))) (hNc42_113 : N_113 42) (hFc42_115 : F_115 42 = .inl (G.2.1 0, 60, .inl ((fun _ => 0)))) (hNc43_113 : N_113 43) (hFc43_115 : F_115 43 = .inl (G.2.1 0, 30, .inl ((fun _ => 0)))) (hNi113 : N_113 44) (hFc44_115 : F_115 44 = .inl (G.2.1 0, 30, .inl ((fun _ => 0)))) : W p l e (headSpec wsX5_init ({ frames := 1, cells := 21, slots := 1167, locals := 20 })).room s m args below meth c H locs 14 963 (MQ below (ck_Qv G (fun H1 => ∃ N1 F1, (∀ i, N i → N1 i) ∧ (∀ i, (i < 30 ∨ 52 ≤ i) → N1 i → N i) ∧ ck_M G ad ck_V0 ck_L0 0 0 0 N1 F1 ∧ ck_sM F F1 ∧ ck_W G ad N1 F1 H1 ∧ H1.size = s.heap.size + 21)) args s 21 1167 (ck_A G)) (F0 m 118 ls []) := by
  have hx := B.exec
  have hb := B.bytes
  have hr := B.returns
  have hts := atoms_spec (ws := wsX5_init) B.pre
  have hown : s.vm.findClass RX5 = some m.cls := findClass_of_methodNamed B.named
  have hlocks := B.notSynchronized
  have hinit : meth.name = "<init>" := (name_of_methodNamed B.named B.method).1
  have hKK := hKK0.keep hS.2.1
  have hK := hKK0.1.1
  have hSz : G.2.2.2 ≤ H.size := ck_szle hSz0 hHs
  have hinX5 : ∀ w ∈ u_ws RX5 TX5 26, w ∈ wsX5_init := by decide +kernel
  refine lv_aload_n hx hb dX5_init_118 rfl (lv_at hl 0 rfl) ?_
  refine lv_bipush (v := 30) hx hb dX5_init_119 (by decide) ?_
  refine ck_newI hx hb (hts _ (List.mem_of_getElem? (i := 7) rfl)) hK hW hS hSz 45 ((hNL.dead (hno 45 (by decide) (by decide)) (by decide))) (((had 45 (by decide) (by decide)).trans hHs.symm)) 30 (by decide) (by decide) (by decide) (Nat.le_of_ble_eq_true rfl) (Nat.le_of_ble_eq_true rfl) dX5_init_121 (fun N_121 F_121 H hNw121 hS hz121 => ?_)
  obtain ⟨hNs121, hNo121, hNi121, hFe121, hFo121, hW⟩ := hNw121
  have hFc30_121 := (hFo121 30 (by decide)).trans hFe115
  have hNc30_121 := hNs121 _ hNc30_113
  have hFc31_121 := (hFo121 31 (by decide)).trans hFc31_115
  have hNc31_121 := hNs121 _ hNc31_113
  have hFc32_121 := (hFo121 32 (by decide)).trans hFc32_115
  have hNc32_121 := hNs121 _ hNc32_113
  have hFc33_121 := (hFo121 33 (by decide)).trans hFc33_115
  have hNc33_121 := hNs121 _ hNc33_113
  have hFc34_121 := (hFo121 34 (by decide)).trans hFc34_115
  have hNc34_121 := hNs121 _ hNc34_113
  have hFc35_121 := (hFo121 35 (by decide)).trans hFc35_115
  have hNc35_121 := hNs121 _ hNc35_113
  have hFc36_121 := (hFo121 36 (by decide)).trans hFc36_115
  have hNc36_121 := hNs121 _ hNc36_113
  have hFc37_121 := (hFo121 37 (by decide)).trans hFc37_115
  have hNc37_121 := hNs121 _ hNc37_113
  have hFc38_121 := (hFo121 38 (by decide)).trans hFc38_115
  have hNc38_121 := hNs121 _ hNc38_113
  have hFc39_121 := (hFo121 39 (by decide)).trans hFc39_115
  have hNc39_121 := hNs121 _ hNc39_113
  have hFc40_121 := (hFo121 40 (by decide)).trans hFc40_115
  have hNc40_121 := hNs121 _ hNc40_113
  have hFc41_121 := (hFo121 41 (by decide)).trans hFc41_115
  have hNc41_121 := hNs121 _ hNc41_113
  have hFc42_121 := (hFo121 42 (by decide)).trans hFc42_115
  have hNc42_121 := hNs121 _ hNc42_113
  have hFc43_121 := (hFo121 43 (by decide)).trans hFc43_115
  have hNc43_121 := hNs121 _ hNc43_113
  have hFc44_121 := (hFo121 44 (by decide)).trans hFc44_115
  have hNc44_121 := hNs121 _ hNi113
  have hHs : H.size = z0 + 15 := ck_szs hz121 hHs
  clear hz121
  have hSz : G.2.2.2 ≤ H.size := ck_szle hSz0 hHs
  have hsm : ck_sM F F_121 := fun j hj => (hFo121 j (ck_neM hj (by decide))).trans (hsm j hj)
  have hNL := hNL.one hNo121
  have hsub : ∀ i, N i → N_121 i := fun i h => hNs121 i (hsub i h)
  have hKK := hKK0.keep hS.2.1
  clear hNo121 hNs121 hFo121 hFe115 hNc30_113 hFc31_115 hNc31_113 hFc32_115 hNc32_113 hFc33_115 hNc33_113 hFc34_115 hNc34_113 hFc35_115 hNc35_113 hFc36_115 hNc36_113 hFc37_115 hNc37_113 hFc38_115 hNc38_113 hFc39_115 hNc39_113 hFc40_115 hNc40_113 hFc41_115 hNc41_113 hFc42_115 hNc42_113 hFc43_115 hNc43_113 hFc44_115 hNi113
  refine ck_putF (v := .ref (ad 45)) (ty := (tyX5 18)) hx hb hts hinX5 tyX5 tyX5_ok nmX5 hown hK hW hS hNc30_121 hFc30_121 rfl 18 (by decide) (hts _ (List.mem_of_getElem? (i := 21) rfl)) rfl rfl hinit rfl (by decide +kernel) rfl rfl (Nat.le_of_ble_eq_true rfl) dX5_init_123 (fun H locs hW hS hz123 => ?_)
  obtain ⟨F_123, hFe123, hFo123, hW⟩ := ck_name hW
  have hHs : H.size = z0 + 15 := hz123.trans hHs
  clear hz123
  have hSz : G.2.2.2 ≤ H.size := ck_szle hSz0 hHs
  have hFc31_123 := (hFo123 31 (by decide)).trans hFc31_121
  have hFc32_123 := (hFo123 32 (by decide)).trans hFc32_121
  have hFc33_123 := (hFo123 33 (by decide)).trans hFc33_121
  have hFc34_123 := (hFo123 34 (by decide)).trans hFc34_121
  have hFc35_123 := (hFo123 35 (by decide)).trans hFc35_121
  have hFc36_123 := (hFo123 36 (by decide)).trans hFc36_121
  have hFc37_123 := (hFo123 37 (by decide)).trans hFc37_121
  have hFc38_123 := (hFo123 38 (by decide)).trans hFc38_121
  have hFc39_123 := (hFo123 39 (by decide)).trans hFc39_121
  have hFc40_123 := (hFo123 40 (by decide)).trans hFc40_121
  have hFc41_123 := (hFo123 41 (by decide)).trans hFc41_121
  have hFc42_123 := (hFo123 42 (by decide)).trans hFc42_121
  have hFc43_123 := (hFo123 43 (by decide)).trans hFc43_121
  have hFc44_123 := (hFo123 44 (by decide)).trans hFc44_121
  have hFc45_123 := (hFo123 45 (by decide)).trans hFe121
  have hsm : ck_sM F F_123 := fun j hj => (hFo123 j (ck_neM hj (by decide))).trans (hsm j hj)
  have hKK := hKK0.keep hS.2.1
  clear hFo123 hFc31_121 hFc32_121 hFc33_121 hFc34_121 hFc35_121 hFc36_121 hFc37_121 hFc38_121 hFc39_121 hFc40_121 hFc41_121 hFc42_121 hFc43_121 hFc44_121 hFe121 hFc30_121
  refine lv_aload_n hx hb dX5_init_126 rfl (lv_at hl 0 rfl) ?_
  refine lv_bipush (v := 30) hx hb dX5_init_127 (by decide) ?_
  refine ck_newI hx hb (hts _ (List.mem_of_getElem? (i := 7) rfl)) hK hW hS hSz 46 ((hNL.dead (hno 46 (by decide) (by decide)) (by decide))) (((had 46 (by decide) (by decide)).trans hHs.symm)) 30 (by decide) (by decide) (by decide) (Nat.le_of_ble_eq_true rfl) (Nat.le_of_ble_eq_true rfl) dX5_init_129 (fun N_129 F_129 H hNw129 hS hz129 => ?_)
  obtain ⟨hNs129, hNo129, hNi129, hFe129, hFo129, hW⟩ := hNw129
  have hFc30_129 := (hFo129 30 (by decide)).trans hFe123
  have hNc30_129 := hNs129 _ hNc30_121
  have hFc31_129 := (hFo129 31 (by decide)).trans hFc31_123
  have hNc31_129 := hNs129 _ hNc31_121
  have hFc32_129 := (hFo129 32 (by decide)).trans hFc32_123
  have hNc32_129 := hNs129 _ hNc32_121
  have hFc33_129 := (hFo129 33 (by decide)).trans hFc33_123
  have hNc33_129 := hNs129 _ hNc33_121
  have hFc34_129 := (hFo129 34 (by decide)).trans hFc34_123
  have hNc34_129 := hNs129 _ hNc34_121
  have hFc35_129 := (hFo129 35 (by decide)).trans hFc35_123
  have hNc35_129 := hNs129 _ hNc35_121
  have hFc36_129 := (hFo129 36 (by decide)).trans hFc36_123
  have hNc36_129 := hNs129 _ hNc36_121
  have hFc37_129 := (hFo129 37 (by decide)).trans hFc37_123
  have hNc37_129 := hNs129 _ hNc37_121
  have hFc38_129 := (hFo129 38 (by decide)).trans hFc38_123
  have hNc38_129 := hNs129 _ hNc38_121
  have hFc39_129 := (hFo129 39 (by decide)).trans hFc39_123
  have hNc39_129 := hNs129 _ hNc39_121
  have hFc40_129 := (hFo129 40 (by decide)).trans hFc40_123
  have hNc40_129 := hNs129 _ hNc40_121
  have hFc41_129 := (hFo129 41 (by decide)).trans hFc41_123
  have hNc41_129 := hNs129 _ hNc41_121
  have hFc42_129 := (hFo129 42 (by decide)).trans hFc42_123
  have hNc42_129 := hNs129 _ hNc42_121
  have hFc43_129 := (hFo129 43 (by decide)).trans hFc43_123
  have hNc43_129 := hNs129 _ hNc43_121
  have hFc44_129 := (hFo129 44 (by decide)).trans hFc44_123
  have hNc44_129 := hNs129 _ hNc44_121
  have hFc45_129 := (hFo129 45 (by decide)).trans hFc45_123
  have hNc45_129 := hNs129 _ hNi121
  have hHs : H.size = z0 + 16 := ck_szs hz129 hHs
  clear hz129
  have hSz : G.2.2.2 ≤ H.size := ck_szle hSz0 hHs
  have hsm : ck_sM F F_129 := fun j hj => (hFo129 j (ck_neM hj (by decide))).trans (hsm j hj)
  have hNL := hNL.one hNo129
  have hsub : ∀ i, N i → N_129 i := fun i h => hNs129 i (hsub i h)
  have hKK := hKK0.keep hS.2.1
  clear hNo129 hNs129 hFo129 hFe123 hNc30_121 hFc31_123 hNc31_121 hFc32_123 hNc32_121 hFc33_123 hNc33_121 hFc34_123 hNc34_121 hFc35_123 hNc35_121 hFc36_123 hNc36_121 hFc37_123 hNc37_121 hFc38_123 hNc38_121 hFc39_123 hNc39_121 hFc40_123 hNc40_121 hFc41_123 hNc41_121 hFc42_123 hNc42_121 hFc43_123 hNc43_121 hFc44_123 hNc44_121 hFc45_123 hNi121
  refine ck_putF (v := .ref (ad 46)) (ty := (tyX5 19)) hx hb hts hinX5 tyX5 tyX5_ok nmX5 hown hK hW hS hNc30_129 hFc30_129 rfl 19 (by decide) (hts _ (List.mem_of_getElem? (i := 22) rfl)) rfl rfl hinit rfl (by decide +kernel) rfl rfl (Nat.le_of_ble_eq_true rfl) dX5_init_131 (fun H locs hW hS hz131 => ?_)
  obtain ⟨F_131, hFe131, hFo131, hW⟩ := ck_name hW
  have hHs : H.size = z0 + 16 := hz131.trans hHs
  clear hz131
  have hSz : G.2.2.2 ≤ H.size := ck_szle hSz0 hHs
  have hFc31_131 := (hFo131 31 (by decide)).trans hFc31_129
  have hFc32_131 := (hFo131 32 (by decide)).trans hFc32_129
  have hFc33_131 := (hFo131 33 (by decide)).trans hFc33_129
  have hFc34_131 := (hFo131 34 (by decide)).trans hFc34_129
  have hFc35_131 := (hFo131 35 (by decide)).trans hFc35_129
  have hFc36_131 := (hFo131 36 (by decide)).trans hFc36_129
  have hFc37_131 := (hFo131 37 (by decide)).trans hFc37_129
  have hFc38_131 := (hFo131 38 (by decide)).trans hFc38_129
  have hFc39_131 := (hFo131 39 (by decide)).trans hFc39_129
  have hFc40_131 := (hFo131 40 (by decide)).trans hFc40_129
  have hFc41_131 := (hFo131 41 (by decide)).trans hFc41_129
  have hFc42_131 := (hFo131 42 (by decide)).trans hFc42_129
  have hFc43_131 := (hFo131 43 (by decide)).trans hFc43_129
  have hFc44_131 := (hFo131 44 (by decide)).trans hFc44_129
  have hFc45_131 := (hFo131 45 (by decide)).trans hFc45_129
  have hFc46_131 := (hFo131 46 (by decide)).trans hFe129
  have hsm : ck_sM F F_131 := fun j hj => (hFo131 j (ck_neM hj (by decide))).trans (hsm j hj)
  have hKK := hKK0.keep hS.2.1
  clear hFo131 hFc31_129 hFc32_129 hFc33_129 hFc34_129 hFc35_129 hFc36_129 hFc37_129 hFc38_129 hFc39_129 hFc40_129 hFc41_129 hFc42_129 hFc43_129 hFc44_129 hFc45_129 hFe129 hFc30_129
  refine ck_pc (q := 134) rfl ?_
  refine lv_aload_n hx hb dX5_init_134 rfl (lv_at hl 0 rfl) ?_
  refine lv_bipush (v := 30) hx hb dX5_init_135 (by decide) ?_
  refine ck_newI hx hb (hts _ (List.mem_of_getElem? (i := 7) rfl)) hK hW hS hSz 47 ((hNL.dead (hno 47 (by decide) (by decide)) (by decide))) (((had 47 (by decide) (by decide)).trans hHs.symm)) 30 (by decide) (by decide) (by decide) (Nat.le_of_ble_eq_true rfl) (Nat.le_of_ble_eq_true rfl) dX5_init_137 (fun N_137 F_137 H hNw137 hS hz137 => ?_)
  obtain ⟨hNs137, hNo137, hNi137, hFe137, hFo137, hW⟩ := hNw137
  have hFc30_137 := (hFo137 30 (by decide)).trans hFe131
  have hNc30_137 := hNs137 _ hNc30_129
  have hFc31_137 := (hFo137 31 (by decide)).trans hFc31_131
  have hNc31_137 := hNs137 _ hNc31_129
  have hFc32_137 := (hFo137 32 (by decide)).trans hFc32_131
  have hNc32_137 := hNs137 _ hNc32_129
  have hFc33_137 := (hFo137 33 (by decide)).trans hFc33_131
  have hNc33_137 := hNs137 _ hNc33_129
  have hFc34_137 := (hFo137 34 (by decide)).trans hFc34_131
  have hNc34_137 := hNs137 _ hNc34_129
  have hFc35_137 := (hFo137 35 (by decide)).trans hFc35_131
  have hNc35_137 := hNs137 _ hNc35_129
  have hFc36_137 := (hFo137 36 (by decide)).trans hFc36_131
  have hNc36_137 := hNs137 _ hNc36_129
  have hFc37_137 := (hFo137 37 (by decide)).trans hFc37_131
  have hNc37_137 := hNs137 _ hNc37_129
  have hFc38_137 := (hFo137 38 (by decide)).trans hFc38_131
  have hNc38_137 := hNs137 _ hNc38_129
  have hFc39_137 := (hFo137 39 (by decide)).trans hFc39_131
  have hNc39_137 := hNs137 _ hNc39_129
  have hFc40_137 := (hFo137 40 (by decide)).trans hFc40_131
  have hNc40_137 := hNs137 _ hNc40_129
  have hFc41_137 := (hFo137 41 (by decide)).trans hFc41_131
  have hNc41_137 := hNs137 _ hNc41_129
  have hFc42_137 := (hFo137 42 (by decide)).trans hFc42_131
  have hNc42_137 := hNs137 _ hNc42_129
  have hFc43_137 := (hFo137 43 (by decide)).trans hFc43_131
  have hNc43_137 := hNs137 _ hNc43_129
  have hFc44_137 := (hFo137 44 (by decide)).trans hFc44_131
  have hNc44_137 := hNs137 _ hNc44_129
  have hFc45_137 := (hFo137 45 (by decide)).trans hFc45_131
  have hNc45_137 := hNs137 _ hNc45_129
  have hFc46_137 := (hFo137 46 (by decide)).trans hFc46_131
  have hNc46_137 := hNs137 _ hNi129
  have hHs : H.size = z0 + 17 := ck_szs hz137 hHs
  clear hz137
  have hSz : G.2.2.2 ≤ H.size := ck_szle hSz0 hHs
  have hsm : ck_sM F F_137 := fun j hj => (hFo137 j (ck_neM hj (by decide))).trans (hsm j hj)
  have hNL := hNL.one hNo137
  have hsub : ∀ i, N i → N_137 i := fun i h => hNs137 i (hsub i h)
  have hKK := hKK0.keep hS.2.1
  clear hNo137 hNs137 hFo137 hFe131 hNc30_129 hFc31_131 hNc31_129 hFc32_131 hNc32_129 hFc33_131 hNc33_129 hFc34_131 hNc34_129 hFc35_131 hNc35_129 hFc36_131 hNc36_129 hFc37_131 hNc37_129 hFc38_131 hNc38_129 hFc39_131 hNc39_129 hFc40_131 hNc40_129 hFc41_131 hNc41_129 hFc42_131 hNc42_129 hFc43_131 hNc43_129 hFc44_131 hNc44_129 hFc45_131 hNc45_129 hFc46_131 hNi129
  refine ck_putF (v := .ref (ad 47)) (ty := (tyX5 20)) hx hb hts hinX5 tyX5 tyX5_ok nmX5 hown hK hW hS hNc30_137 hFc30_137 rfl 20 (by decide) (hts _ (List.mem_of_getElem? (i := 23) rfl)) rfl rfl hinit rfl (by decide +kernel) rfl rfl (Nat.le_of_ble_eq_true rfl) dX5_init_139 (fun H locs hW hS hz139 => ?_)
  obtain ⟨F_139, hFe139, hFo139, hW⟩ := ck_name hW
  have hHs : H.size = z0 + 17 := hz139.trans hHs
  clear hz139
  have hSz : G.2.2.2 ≤ H.size := ck_szle hSz0 hHs
  have hFc31_139 := (hFo139 31 (by decide)).trans hFc31_137
  have hFc32_139 := (hFo139 32 (by decide)).trans hFc32_137
  have hFc33_139 := (hFo139 33 (by decide)).trans hFc33_137
  have hFc34_139 := (hFo139 34 (by decide)).trans hFc34_137
  have hFc35_139 := (hFo139 35 (by decide)).trans hFc35_137
  have hFc36_139 := (hFo139 36 (by decide)).trans hFc36_137
  have hFc37_139 := (hFo139 37 (by decide)).trans hFc37_137
  have hFc38_139 := (hFo139 38 (by decide)).trans hFc38_137
  have hFc39_139 := (hFo139 39 (by decide)).trans hFc39_137
  have hFc40_139 := (hFo139 40 (by decide)).trans hFc40_137
  have hFc41_139 := (hFo139 41 (by decide)).trans hFc41_137
  have hFc42_139 := (hFo139 42 (by decide)).trans hFc42_137
  have hFc43_139 := (hFo139 43 (by decide)).trans hFc43_137
  have hFc44_139 := (hFo139 44 (by decide)).trans hFc44_137
  have hFc45_139 := (hFo139 45 (by decide)).trans hFc45_137
  have hFc46_139 := (hFo139 46 (by decide)).trans hFc46_137
  have hFc47_139 := (hFo139 47 (by decide)).trans hFe137
  have hsm : ck_sM F F_139 := fun j hj => (hFo139 j (ck_neM hj (by decide))).trans (hsm j hj)
  have hKK := hKK0.keep hS.2.1
  clear hFo139 hFc31_137 hFc32_137 hFc33_137 hFc34_137 hFc35_137 hFc36_137 hFc37_137 hFc38_137 hFc39_137 hFc40_137 hFc41_137 hFc42_137 hFc43_137 hFc44_137 hFc45_137 hFc46_137 hFe137 hFc30_137
  refine lv_aload_n hx hb dX5_init_142 rfl (lv_at hl 0 rfl) ?_
  refine lv_bipush (v := 30) hx hb dX5_init_143 (by decide) ?_
  refine ck_newI hx hb (hts _ (List.mem_of_getElem? (i := 7) rfl)) hK hW hS hSz 48 ((hNL.dead (hno 48 (by decide) (by decide)) (by decide))) (((had 48 (by decide) (by decide)).trans hHs.symm)) 30 (by decide) (by decide) (by decide) (Nat.le_of_ble_eq_true rfl) (Nat.le_of_ble_eq_true rfl) dX5_init_145 (fun N_145 F_145 H hNw145 hS hz145 => ?_)
  obtain ⟨hNs145, hNo145, hNi145, hFe145, hFo145, hW⟩ := hNw145
  have hFc30_145 := (hFo145 30 (by decide)).trans hFe139
  have hNc30_145 := hNs145 _ hNc30_137
  have hFc31_145 := (hFo145 31 (by decide)).trans hFc31_139
  have hNc31_145 := hNs145 _ hNc31_137
  have hFc32_145 := (hFo145 32 (by decide)).trans hFc32_139
  have hNc32_145 := hNs145 _ hNc32_137
  have hFc33_145 := (hFo145 33 (by decide)).trans hFc33_139
  have hNc33_145 := hNs145 _ hNc33_137
  have hFc34_145 := (hFo145 34 (by decide)).trans hFc34_139
  have hNc34_145 := hNs145 _ hNc34_137
  have hFc35_145 := (hFo145 35 (by decide)).trans hFc35_139
  have hNc35_145 := hNs145 _ hNc35_137
  have hFc36_145 := (hFo145 36 (by decide)).trans hFc36_139
  have hNc36_145 := hNs145 _ hNc36_137
  have hFc37_145 := (hFo145 37 (by decide)).trans hFc37_139
  have hNc37_145 := hNs145 _ hNc37_137
  have hFc38_145 := (hFo145 38 (by decide)).trans hFc38_139
  have hNc38_145 := hNs145 _ hNc38_137
  have hFc39_145 := (hFo145 39 (by decide)).trans hFc39_139
  have hNc39_145 := hNs145 _ hNc39_137
  have hFc40_145 := (hFo145 40 (by decide)).trans hFc40_139
  have hNc40_145 := hNs145 _ hNc40_137
  have hFc41_145 := (hFo145 41 (by decide)).trans hFc41_139
  have hNc41_145 := hNs145 _ hNc41_137
  have hFc42_145 := (hFo145 42 (by decide)).trans hFc42_139
  have hNc42_145 := hNs145 _ hNc42_137
  have hFc43_145 := (hFo145 43 (by decide)).trans hFc43_139
  have hNc43_145 := hNs145 _ hNc43_137
  have hFc44_145 := (hFo145 44 (by decide)).trans hFc44_139
  have hNc44_145 := hNs145 _ hNc44_137
  have hFc45_145 := (hFo145 45 (by decide)).trans hFc45_139
  have hNc45_145 := hNs145 _ hNc45_137
  have hFc46_145 := (hFo145 46 (by decide)).trans hFc46_139
  have hNc46_145 := hNs145 _ hNc46_137
  have hFc47_145 := (hFo145 47 (by decide)).trans hFc47_139
  have hNc47_145 := hNs145 _ hNi137
  have hHs : H.size = z0 + 18 := ck_szs hz145 hHs
  clear hz145
  have hSz : G.2.2.2 ≤ H.size := ck_szle hSz0 hHs
  have hsm : ck_sM F F_145 := fun j hj => (hFo145 j (ck_neM hj (by decide))).trans (hsm j hj)
  have hNL := hNL.one hNo145
  have hsub : ∀ i, N i → N_145 i := fun i h => hNs145 i (hsub i h)
  have hKK := hKK0.keep hS.2.1
  clear hNo145 hNs145 hFo145 hFe139 hNc30_137 hFc31_139 hNc31_137 hFc32_139 hNc32_137 hFc33_139 hNc33_137 hFc34_139 hNc34_137 hFc35_139 hNc35_137 hFc36_139 hNc36_137 hFc37_139 hNc37_137 hFc38_139 hNc38_137 hFc39_139 hNc39_137 hFc40_139 hNc40_137 hFc41_139 hNc41_137 hFc42_139 hNc42_137 hFc43_139 hNc43_137 hFc44_139 hNc44_137 hFc45_139 hNc45_137 hFc46_139 hNc46_137 hFc47_139 hNi137
  refine ck_putF (v := .ref (ad 48)) (ty := (tyX5 21)) hx hb hts hinX5 tyX5 tyX5_ok nmX5 hown hK hW hS hNc30_145 hFc30_145 rfl 21 (by decide) (hts _ (List.mem_of_getElem? (i := 24) rfl)) rfl rfl hinit rfl (by decide +kernel) rfl rfl (Nat.le_of_ble_eq_true rfl) dX5_init_147 (fun H locs hW hS hz147 => ?_)
  obtain ⟨F_147, hFe147, hFo147, hW⟩ := ck_name hW
  have hHs : H.size = z0 + 18 := hz147.trans hHs
  clear hz147
  have hSz : G.2.2.2 ≤ H.size := ck_szle hSz0 hHs
  have hFc31_147 := (hFo147 31 (by decide)).trans hFc31_145
  have hFc32_147 := (hFo147 32 (by decide)).trans hFc32_145
  have hFc33_147 := (hFo147 33 (by decide)).trans hFc33_145
  have hFc34_147 := (hFo147 34 (by decide)).trans hFc34_145
  have hFc35_147 := (hFo147 35 (by decide)).trans hFc35_145
  have hFc36_147 := (hFo147 36 (by decide)).trans hFc36_145
  have hFc37_147 := (hFo147 37 (by decide)).trans hFc37_145
  have hFc38_147 := (hFo147 38 (by decide)).trans hFc38_145
  have hFc39_147 := (hFo147 39 (by decide)).trans hFc39_145
  have hFc40_147 := (hFo147 40 (by decide)).trans hFc40_145
  have hFc41_147 := (hFo147 41 (by decide)).trans hFc41_145
  have hFc42_147 := (hFo147 42 (by decide)).trans hFc42_145
  have hFc43_147 := (hFo147 43 (by decide)).trans hFc43_145
  have hFc44_147 := (hFo147 44 (by decide)).trans hFc44_145
  have hFc45_147 := (hFo147 45 (by decide)).trans hFc45_145
  have hFc46_147 := (hFo147 46 (by decide)).trans hFc46_145
  have hFc47_147 := (hFo147 47 (by decide)).trans hFc47_145
  have hFc48_147 := (hFo147 48 (by decide)).trans hFe145
  have hsm : ck_sM F F_147 := fun j hj => (hFo147 j (ck_neM hj (by decide))).trans (hsm j hj)
  have hKK := hKK0.keep hS.2.1
  clear hFo147 hFc31_145 hFc32_145 hFc33_145 hFc34_145 hFc35_145 hFc36_145 hFc37_145 hFc38_145 hFc39_145 hFc40_145 hFc41_145 hFc42_145 hFc43_145 hFc44_145 hFc45_145 hFc46_145 hFc47_145 hFe145 hFc30_145
  exact ct_X5_mid2 B hml hKK0 hS hl hno had hz0 hSz0 hHs hNL hsub hsm hW hNc30_145 hFe147 hNc31_145 hFc31_147 hNc32_145 hFc32_147 hNc33_145 hFc33_147 hNc34_145 hFc34_147 hNc35_145 hFc35_147 hNc36_145 hFc36_147 hNc37_145 hFc37_147 hNc38_145 hFc38_147 hNc39_145 hFc39_147 hNc40_145 hFc40_147 hNc41_145 hFc41_147 hNc42_145 hFc42_147 hNc43_145 hFc43_147 hNc44_145 hFc44_147 hNc45_145 hFc45_147 hNc46_145 hFc46_147 hNc47_145 hFc47_147 hNi145 hFc48_147
set_option maxHeartbeats 4000000 in
set_option maxRecDepth 100000 in
theorem ct_X5_mid0 {p : Program} {l : Launch} {e : Env} {s s₁ : State} {m : MethodId} {args : Array Value} {below : List Frame} {meth : Method} {c : Code} {G : ck_G} {H : Heap} {locs : List Loc} {ad : Nat → Nat} {N N_73 : Nat → Prop} {F F_75 : Nat → va_E} {ls : Array Slot} {z0 : Nat} (B : BodyLoose p l yX5_init (headSpec wsX5_init ({ frames := 1, cells := 21, slots := 1167, locals := 20 })) cX5_init 2 none e s m args below meth c s₁) (hml : c.maxLocals = 2) (hKK0 : ck_K G s.heap s) (hS : va_S (ck_A G) s.heap H locs) (hl : lv_has ls 2 [(0, .ref (ad 30))]) (hno : ∀ i, 31 ≤ i → i < 52 → ¬ N i) (had : ∀ i, 31 ≤ i → i < 52 → ad i = z0 + (i - 31)) (hz0 : z0 = s.heap.size) (hSz0 : G.2.2.2 ≤ z0) (hHs : H.size = z0 + 9) (hNL : ck_NL N N_73 [39, 38, 37, 36, 35, 34, 33, 32, 31]) (hsub : ∀ i, N i → N_73 i) (hsm : ck_sM F F_75) (hW : ck_W G ad N_73 F_75 H) (hNc30_73 : N_73 30) (hFe75 : F_75 30 = .inr (5, [.int 5, .ref (ad 31), .ref (ad 32), .ref (ad 33), .ref (ad 34), .ref (ad 35), .int 0, .ref (ad 36), .ref (ad 37), .ref (ad 38), .ref (ad 39), .null, .null, .null, .int 0, .int 0, .null, .null, .null, .null, .null, .null, .null, .null, .null, .int 0])) (hNc31_73 : N_73 31) (hFc31_75 : F_75 31 = .inl (G.2.1 1, 471, .inr (.inl ((fun _ => 0))))) (hNc32_73 : N_73 32) (hFc32_75 : F_75 32 = .inl (G.2.1 0, 3, .inl ((fun _ => 0)))) (hNc33_73 : N_73 33) (hFc33_75 : F_75 33 = .inl (G.2.1 0, 3, .inl ((fun _ => 0)))) (hNc34_73 : N_73 34) (hFc34_75 : F_75 34 = .inl (G.2.1 0, 3, .inl ((fun _ => 0)))) (hNc35_73 : N_73 35) (hFc35_75 : F_75 35 = .inl (G.2.1 0, 3, .inl ((fun _ => 0)))) (hNc36_73 : N_73 36) (hFc36_75 : F_75 36 = .inl (G.2.1 0, 60, .inl ((fun _ => 0)))) (hNc37_73 : N_73 37) (hFc37_75 : F_75 37 = .inl (G.2.1 0, 60, .inl ((fun _ => 0)))) (hNc38_73 : N_73 38) (hFc38_75 : F_75 38 = .inl (G.2.1 0, 60, .inl ((fun _ => 0)))) (hNi73 : N_73 39) (hFc39_75 : F_75 39 = .inl (G.2.1 0, 60, .inl ((fun _ => 0)))) : W p l e (headSpec wsX5_init ({ frames := 1, cells := 21, slots := 1167, locals := 20 })).room s m args below meth c H locs 9 723 (MQ below (ck_Qv G (fun H1 => ∃ N1 F1, (∀ i, N i → N1 i) ∧ (∀ i, (i < 30 ∨ 52 ≤ i) → N1 i → N i) ∧ ck_M G ad ck_V0 ck_L0 0 0 0 N1 F1 ∧ ck_sM F F1 ∧ ck_W G ad N1 F1 H1 ∧ H1.size = s.heap.size + 21)) args s 21 1167 (ck_A G)) (F0 m 78 ls []) := by
  have hx := B.exec
  have hb := B.bytes
  have hr := B.returns
  have hts := atoms_spec (ws := wsX5_init) B.pre
  have hown : s.vm.findClass RX5 = some m.cls := findClass_of_methodNamed B.named
  have hlocks := B.notSynchronized
  have hinit : meth.name = "<init>" := (name_of_methodNamed B.named B.method).1
  have hKK := hKK0.keep hS.2.1
  have hK := hKK0.1.1
  have hSz : G.2.2.2 ≤ H.size := ck_szle hSz0 hHs
  have hinX5 : ∀ w ∈ u_ws RX5 TX5 26, w ∈ wsX5_init := by decide +kernel
  refine lv_aload_n hx hb dX5_init_78 rfl (lv_at hl 0 rfl) ?_
  refine lv_bipush (v := 60) hx hb dX5_init_79 (by decide) ?_
  refine ck_newI hx hb (hts _ (List.mem_of_getElem? (i := 7) rfl)) hK hW hS hSz 40 ((hNL.dead (hno 40 (by decide) (by decide)) (by decide))) (((had 40 (by decide) (by decide)).trans hHs.symm)) 60 (by decide) (by decide) (by decide) (Nat.le_of_ble_eq_true rfl) (Nat.le_of_ble_eq_true rfl) dX5_init_81 (fun N_81 F_81 H hNw81 hS hz81 => ?_)
  obtain ⟨hNs81, hNo81, hNi81, hFe81, hFo81, hW⟩ := hNw81
  have hFc30_81 := (hFo81 30 (by decide)).trans hFe75
  have hNc30_81 := hNs81 _ hNc30_73
  have hFc31_81 := (hFo81 31 (by decide)).trans hFc31_75
  have hNc31_81 := hNs81 _ hNc31_73
  have hFc32_81 := (hFo81 32 (by decide)).trans hFc32_75
  have hNc32_81 := hNs81 _ hNc32_73
  have hFc33_81 := (hFo81 33 (by decide)).trans hFc33_75
  have hNc33_81 := hNs81 _ hNc33_73
  have hFc34_81 := (hFo81 34 (by decide)).trans hFc34_75
  have hNc34_81 := hNs81 _ hNc34_73
  have hFc35_81 := (hFo81 35 (by decide)).trans hFc35_75
  have hNc35_81 := hNs81 _ hNc35_73
  have hFc36_81 := (hFo81 36 (by decide)).trans hFc36_75
  have hNc36_81 := hNs81 _ hNc36_73
  have hFc37_81 := (hFo81 37 (by decide)).trans hFc37_75
  have hNc37_81 := hNs81 _ hNc37_73
  have hFc38_81 := (hFo81 38 (by decide)).trans hFc38_75
  have hNc38_81 := hNs81 _ hNc38_73
  have hFc39_81 := (hFo81 39 (by decide)).trans hFc39_75
  have hNc39_81 := hNs81 _ hNi73
  have hHs : H.size = z0 + 10 := ck_szs hz81 hHs
  clear hz81
  have hSz : G.2.2.2 ≤ H.size := ck_szle hSz0 hHs
  have hsm : ck_sM F F_81 := fun j hj => (hFo81 j (ck_neM hj (by decide))).trans (hsm j hj)
  have hNL := hNL.one hNo81
  have hsub : ∀ i, N i → N_81 i := fun i h => hNs81 i (hsub i h)
  have hKK := hKK0.keep hS.2.1
  clear hNo81 hNs81 hFo81 hFe75 hNc30_73 hFc31_75 hNc31_73 hFc32_75 hNc32_73 hFc33_75 hNc33_73 hFc34_75 hNc34_73 hFc35_75 hNc35_73 hFc36_75 hNc36_73 hFc37_75 hNc37_73 hFc38_75 hNc38_73 hFc39_75 hNi73
  refine ck_putF (v := .ref (ad 40)) (ty := (tyX5 11)) hx hb hts hinX5 tyX5 tyX5_ok nmX5 hown hK hW hS hNc30_81 hFc30_81 rfl 11 (by decide) (hts _ (List.mem_of_getElem? (i := 16) rfl)) rfl rfl hinit rfl (by decide +kernel) rfl rfl (Nat.le_of_ble_eq_true rfl) dX5_init_83 (fun H locs hW hS hz83 => ?_)
  obtain ⟨F_83, hFe83, hFo83, hW⟩ := ck_name hW
  have hHs : H.size = z0 + 10 := hz83.trans hHs
  clear hz83
  have hSz : G.2.2.2 ≤ H.size := ck_szle hSz0 hHs
  have hFc31_83 := (hFo83 31 (by decide)).trans hFc31_81
  have hFc32_83 := (hFo83 32 (by decide)).trans hFc32_81
  have hFc33_83 := (hFo83 33 (by decide)).trans hFc33_81
  have hFc34_83 := (hFo83 34 (by decide)).trans hFc34_81
  have hFc35_83 := (hFo83 35 (by decide)).trans hFc35_81
  have hFc36_83 := (hFo83 36 (by decide)).trans hFc36_81
  have hFc37_83 := (hFo83 37 (by decide)).trans hFc37_81
  have hFc38_83 := (hFo83 38 (by decide)).trans hFc38_81
  have hFc39_83 := (hFo83 39 (by decide)).trans hFc39_81
  have hFc40_83 := (hFo83 40 (by decide)).trans hFe81
  have hsm : ck_sM F F_83 := fun j hj => (hFo83 j (ck_neM hj (by decide))).trans (hsm j hj)
  have hKK := hKK0.keep hS.2.1
  clear hFo83 hFc31_81 hFc32_81 hFc33_81 hFc34_81 hFc35_81 hFc36_81 hFc37_81 hFc38_81 hFc39_81 hFe81 hFc30_81
  refine lv_aload_n hx hb dX5_init_86 rfl (lv_at hl 0 rfl) ?_
  refine lv_bipush (v := 60) hx hb dX5_init_87 (by decide) ?_
  refine ck_newI hx hb (hts _ (List.mem_of_getElem? (i := 7) rfl)) hK hW hS hSz 41 ((hNL.dead (hno 41 (by decide) (by decide)) (by decide))) (((had 41 (by decide) (by decide)).trans hHs.symm)) 60 (by decide) (by decide) (by decide) (Nat.le_of_ble_eq_true rfl) (Nat.le_of_ble_eq_true rfl) dX5_init_89 (fun N_89 F_89 H hNw89 hS hz89 => ?_)
  obtain ⟨hNs89, hNo89, hNi89, hFe89, hFo89, hW⟩ := hNw89
  have hFc30_89 := (hFo89 30 (by decide)).trans hFe83
  have hNc30_89 := hNs89 _ hNc30_81
  have hFc31_89 := (hFo89 31 (by decide)).trans hFc31_83
  have hNc31_89 := hNs89 _ hNc31_81
  have hFc32_89 := (hFo89 32 (by decide)).trans hFc32_83
  have hNc32_89 := hNs89 _ hNc32_81
  have hFc33_89 := (hFo89 33 (by decide)).trans hFc33_83
  have hNc33_89 := hNs89 _ hNc33_81
  have hFc34_89 := (hFo89 34 (by decide)).trans hFc34_83
  have hNc34_89 := hNs89 _ hNc34_81
  have hFc35_89 := (hFo89 35 (by decide)).trans hFc35_83
  have hNc35_89 := hNs89 _ hNc35_81
  have hFc36_89 := (hFo89 36 (by decide)).trans hFc36_83
  have hNc36_89 := hNs89 _ hNc36_81
  have hFc37_89 := (hFo89 37 (by decide)).trans hFc37_83
  have hNc37_89 := hNs89 _ hNc37_81
  have hFc38_89 := (hFo89 38 (by decide)).trans hFc38_83
  have hNc38_89 := hNs89 _ hNc38_81
  have hFc39_89 := (hFo89 39 (by decide)).trans hFc39_83
  have hNc39_89 := hNs89 _ hNc39_81
  have hFc40_89 := (hFo89 40 (by decide)).trans hFc40_83
  have hNc40_89 := hNs89 _ hNi81
  have hHs : H.size = z0 + 11 := ck_szs hz89 hHs
  clear hz89
  have hSz : G.2.2.2 ≤ H.size := ck_szle hSz0 hHs
  have hsm : ck_sM F F_89 := fun j hj => (hFo89 j (ck_neM hj (by decide))).trans (hsm j hj)
  have hNL := hNL.one hNo89
  have hsub : ∀ i, N i → N_89 i := fun i h => hNs89 i (hsub i h)
  have hKK := hKK0.keep hS.2.1
  clear hNo89 hNs89 hFo89 hFe83 hNc30_81 hFc31_83 hNc31_81 hFc32_83 hNc32_81 hFc33_83 hNc33_81 hFc34_83 hNc34_81 hFc35_83 hNc35_81 hFc36_83 hNc36_81 hFc37_83 hNc37_81 hFc38_83 hNc38_81 hFc39_83 hNc39_81 hFc40_83 hNi81
  refine ck_putF (v := .ref (ad 41)) (ty := (tyX5 12)) hx hb hts hinX5 tyX5 tyX5_ok nmX5 hown hK hW hS hNc30_89 hFc30_89 rfl 12 (by decide) (hts _ (List.mem_of_getElem? (i := 17) rfl)) rfl rfl hinit rfl (by decide +kernel) rfl rfl (Nat.le_of_ble_eq_true rfl) dX5_init_91 (fun H locs hW hS hz91 => ?_)
  obtain ⟨F_91, hFe91, hFo91, hW⟩ := ck_name hW
  have hHs : H.size = z0 + 11 := hz91.trans hHs
  clear hz91
  have hSz : G.2.2.2 ≤ H.size := ck_szle hSz0 hHs
  have hFc31_91 := (hFo91 31 (by decide)).trans hFc31_89
  have hFc32_91 := (hFo91 32 (by decide)).trans hFc32_89
  have hFc33_91 := (hFo91 33 (by decide)).trans hFc33_89
  have hFc34_91 := (hFo91 34 (by decide)).trans hFc34_89
  have hFc35_91 := (hFo91 35 (by decide)).trans hFc35_89
  have hFc36_91 := (hFo91 36 (by decide)).trans hFc36_89
  have hFc37_91 := (hFo91 37 (by decide)).trans hFc37_89
  have hFc38_91 := (hFo91 38 (by decide)).trans hFc38_89
  have hFc39_91 := (hFo91 39 (by decide)).trans hFc39_89
  have hFc40_91 := (hFo91 40 (by decide)).trans hFc40_89
  have hFc41_91 := (hFo91 41 (by decide)).trans hFe89
  have hsm : ck_sM F F_91 := fun j hj => (hFo91 j (ck_neM hj (by decide))).trans (hsm j hj)
  have hKK := hKK0.keep hS.2.1
  clear hFo91 hFc31_89 hFc32_89 hFc33_89 hFc34_89 hFc35_89 hFc36_89 hFc37_89 hFc38_89 hFc39_89 hFc40_89 hFe89 hFc30_89
  refine ck_pc (q := 94) rfl ?_
  refine lv_aload_n hx hb dX5_init_94 rfl (lv_at hl 0 rfl) ?_
  refine lv_bipush (v := 60) hx hb dX5_init_95 (by decide) ?_
  refine ck_newI hx hb (hts _ (List.mem_of_getElem? (i := 7) rfl)) hK hW hS hSz 42 ((hNL.dead (hno 42 (by decide) (by decide)) (by decide))) (((had 42 (by decide) (by decide)).trans hHs.symm)) 60 (by decide) (by decide) (by decide) (Nat.le_of_ble_eq_true rfl) (Nat.le_of_ble_eq_true rfl) dX5_init_97 (fun N_97 F_97 H hNw97 hS hz97 => ?_)
  obtain ⟨hNs97, hNo97, hNi97, hFe97, hFo97, hW⟩ := hNw97
  have hFc30_97 := (hFo97 30 (by decide)).trans hFe91
  have hNc30_97 := hNs97 _ hNc30_89
  have hFc31_97 := (hFo97 31 (by decide)).trans hFc31_91
  have hNc31_97 := hNs97 _ hNc31_89
  have hFc32_97 := (hFo97 32 (by decide)).trans hFc32_91
  have hNc32_97 := hNs97 _ hNc32_89
  have hFc33_97 := (hFo97 33 (by decide)).trans hFc33_91
  have hNc33_97 := hNs97 _ hNc33_89
  have hFc34_97 := (hFo97 34 (by decide)).trans hFc34_91
  have hNc34_97 := hNs97 _ hNc34_89
  have hFc35_97 := (hFo97 35 (by decide)).trans hFc35_91
  have hNc35_97 := hNs97 _ hNc35_89
  have hFc36_97 := (hFo97 36 (by decide)).trans hFc36_91
  have hNc36_97 := hNs97 _ hNc36_89
  have hFc37_97 := (hFo97 37 (by decide)).trans hFc37_91
  have hNc37_97 := hNs97 _ hNc37_89
  have hFc38_97 := (hFo97 38 (by decide)).trans hFc38_91
  have hNc38_97 := hNs97 _ hNc38_89
  have hFc39_97 := (hFo97 39 (by decide)).trans hFc39_91
  have hNc39_97 := hNs97 _ hNc39_89
  have hFc40_97 := (hFo97 40 (by decide)).trans hFc40_91
  have hNc40_97 := hNs97 _ hNc40_89
  have hFc41_97 := (hFo97 41 (by decide)).trans hFc41_91
  have hNc41_97 := hNs97 _ hNi89
  have hHs : H.size = z0 + 12 := ck_szs hz97 hHs
  clear hz97
  have hSz : G.2.2.2 ≤ H.size := ck_szle hSz0 hHs
  have hsm : ck_sM F F_97 := fun j hj => (hFo97 j (ck_neM hj (by decide))).trans (hsm j hj)
  have hNL := hNL.one hNo97
  have hsub : ∀ i, N i → N_97 i := fun i h => hNs97 i (hsub i h)
  have hKK := hKK0.keep hS.2.1
  clear hNo97 hNs97 hFo97 hFe91 hNc30_89 hFc31_91 hNc31_89 hFc32_91 hNc32_89 hFc33_91 hNc33_89 hFc34_91 hNc34_89 hFc35_91 hNc35_89 hFc36_91 hNc36_89 hFc37_91 hNc37_89 hFc38_91 hNc38_89 hFc39_91 hNc39_89 hFc40_91 hNc40_89 hFc41_91 hNi89
  refine ck_putF (v := .ref (ad 42)) (ty := (tyX5 13)) hx hb hts hinX5 tyX5 tyX5_ok nmX5 hown hK hW hS hNc30_97 hFc30_97 rfl 13 (by decide) (hts _ (List.mem_of_getElem? (i := 18) rfl)) rfl rfl hinit rfl (by decide +kernel) rfl rfl (Nat.le_of_ble_eq_true rfl) dX5_init_99 (fun H locs hW hS hz99 => ?_)
  obtain ⟨F_99, hFe99, hFo99, hW⟩ := ck_name hW
  have hHs : H.size = z0 + 12 := hz99.trans hHs
  clear hz99
  have hSz : G.2.2.2 ≤ H.size := ck_szle hSz0 hHs
  have hFc31_99 := (hFo99 31 (by decide)).trans hFc31_97
  have hFc32_99 := (hFo99 32 (by decide)).trans hFc32_97
  have hFc33_99 := (hFo99 33 (by decide)).trans hFc33_97
  have hFc34_99 := (hFo99 34 (by decide)).trans hFc34_97
  have hFc35_99 := (hFo99 35 (by decide)).trans hFc35_97
  have hFc36_99 := (hFo99 36 (by decide)).trans hFc36_97
  have hFc37_99 := (hFo99 37 (by decide)).trans hFc37_97
  have hFc38_99 := (hFo99 38 (by decide)).trans hFc38_97
  have hFc39_99 := (hFo99 39 (by decide)).trans hFc39_97
  have hFc40_99 := (hFo99 40 (by decide)).trans hFc40_97
  have hFc41_99 := (hFo99 41 (by decide)).trans hFc41_97
  have hFc42_99 := (hFo99 42 (by decide)).trans hFe97
  have hsm : ck_sM F F_99 := fun j hj => (hFo99 j (ck_neM hj (by decide))).trans (hsm j hj)
  have hKK := hKK0.keep hS.2.1
  clear hFo99 hFc31_97 hFc32_97 hFc33_97 hFc34_97 hFc35_97 hFc36_97 hFc37_97 hFc38_97 hFc39_97 hFc40_97 hFc41_97 hFe97 hFc30_97
  refine lv_aload_n hx hb dX5_init_102 rfl (lv_at hl 0 rfl) ?_
  refine lv_bipush (v := 30) hx hb dX5_init_103 (by decide) ?_
  refine ck_newI hx hb (hts _ (List.mem_of_getElem? (i := 7) rfl)) hK hW hS hSz 43 ((hNL.dead (hno 43 (by decide) (by decide)) (by decide))) (((had 43 (by decide) (by decide)).trans hHs.symm)) 30 (by decide) (by decide) (by decide) (Nat.le_of_ble_eq_true rfl) (Nat.le_of_ble_eq_true rfl) dX5_init_105 (fun N_105 F_105 H hNw105 hS hz105 => ?_)
  obtain ⟨hNs105, hNo105, hNi105, hFe105, hFo105, hW⟩ := hNw105
  have hFc30_105 := (hFo105 30 (by decide)).trans hFe99
  have hNc30_105 := hNs105 _ hNc30_97
  have hFc31_105 := (hFo105 31 (by decide)).trans hFc31_99
  have hNc31_105 := hNs105 _ hNc31_97
  have hFc32_105 := (hFo105 32 (by decide)).trans hFc32_99
  have hNc32_105 := hNs105 _ hNc32_97
  have hFc33_105 := (hFo105 33 (by decide)).trans hFc33_99
  have hNc33_105 := hNs105 _ hNc33_97
  have hFc34_105 := (hFo105 34 (by decide)).trans hFc34_99
  have hNc34_105 := hNs105 _ hNc34_97
  have hFc35_105 := (hFo105 35 (by decide)).trans hFc35_99
  have hNc35_105 := hNs105 _ hNc35_97
  have hFc36_105 := (hFo105 36 (by decide)).trans hFc36_99
  have hNc36_105 := hNs105 _ hNc36_97
  have hFc37_105 := (hFo105 37 (by decide)).trans hFc37_99
  have hNc37_105 := hNs105 _ hNc37_97
  have hFc38_105 := (hFo105 38 (by decide)).trans hFc38_99
  have hNc38_105 := hNs105 _ hNc38_97
  have hFc39_105 := (hFo105 39 (by decide)).trans hFc39_99
  have hNc39_105 := hNs105 _ hNc39_97
  have hFc40_105 := (hFo105 40 (by decide)).trans hFc40_99
  have hNc40_105 := hNs105 _ hNc40_97
  have hFc41_105 := (hFo105 41 (by decide)).trans hFc41_99
  have hNc41_105 := hNs105 _ hNc41_97
  have hFc42_105 := (hFo105 42 (by decide)).trans hFc42_99
  have hNc42_105 := hNs105 _ hNi97
  have hHs : H.size = z0 + 13 := ck_szs hz105 hHs
  clear hz105
  have hSz : G.2.2.2 ≤ H.size := ck_szle hSz0 hHs
  have hsm : ck_sM F F_105 := fun j hj => (hFo105 j (ck_neM hj (by decide))).trans (hsm j hj)
  have hNL := hNL.one hNo105
  have hsub : ∀ i, N i → N_105 i := fun i h => hNs105 i (hsub i h)
  have hKK := hKK0.keep hS.2.1
  clear hNo105 hNs105 hFo105 hFe99 hNc30_97 hFc31_99 hNc31_97 hFc32_99 hNc32_97 hFc33_99 hNc33_97 hFc34_99 hNc34_97 hFc35_99 hNc35_97 hFc36_99 hNc36_97 hFc37_99 hNc37_97 hFc38_99 hNc38_97 hFc39_99 hNc39_97 hFc40_99 hNc40_97 hFc41_99 hNc41_97 hFc42_99 hNi97
  refine ck_putF (v := .ref (ad 43)) (ty := (tyX5 16)) hx hb hts hinX5 tyX5 tyX5_ok nmX5 hown hK hW hS hNc30_105 hFc30_105 rfl 16 (by decide) (hts _ (List.mem_of_getElem? (i := 19) rfl)) rfl rfl hinit rfl (by decide +kernel) rfl rfl (Nat.le_of_ble_eq_true rfl) dX5_init_107 (fun H locs hW hS hz107 => ?_)
  obtain ⟨F_107, hFe107, hFo107, hW⟩ := ck_name hW
  have hHs : H.size = z0 + 13 := hz107.trans hHs
  clear hz107
  have hSz : G.2.2.2 ≤ H.size := ck_szle hSz0 hHs
  have hFc31_107 := (hFo107 31 (by decide)).trans hFc31_105
  have hFc32_107 := (hFo107 32 (by decide)).trans hFc32_105
  have hFc33_107 := (hFo107 33 (by decide)).trans hFc33_105
  have hFc34_107 := (hFo107 34 (by decide)).trans hFc34_105
  have hFc35_107 := (hFo107 35 (by decide)).trans hFc35_105
  have hFc36_107 := (hFo107 36 (by decide)).trans hFc36_105
  have hFc37_107 := (hFo107 37 (by decide)).trans hFc37_105
  have hFc38_107 := (hFo107 38 (by decide)).trans hFc38_105
  have hFc39_107 := (hFo107 39 (by decide)).trans hFc39_105
  have hFc40_107 := (hFo107 40 (by decide)).trans hFc40_105
  have hFc41_107 := (hFo107 41 (by decide)).trans hFc41_105
  have hFc42_107 := (hFo107 42 (by decide)).trans hFc42_105
  have hFc43_107 := (hFo107 43 (by decide)).trans hFe105
  have hsm : ck_sM F F_107 := fun j hj => (hFo107 j (ck_neM hj (by decide))).trans (hsm j hj)
  have hKK := hKK0.keep hS.2.1
  clear hFo107 hFc31_105 hFc32_105 hFc33_105 hFc34_105 hFc35_105 hFc36_105 hFc37_105 hFc38_105 hFc39_105 hFc40_105 hFc41_105 hFc42_105 hFe105 hFc30_105
  refine lv_aload_n hx hb dX5_init_110 rfl (lv_at hl 0 rfl) ?_
  refine lv_bipush (v := 30) hx hb dX5_init_111 (by decide) ?_
  refine ck_pc (q := 113) rfl ?_
  refine ck_newI hx hb (hts _ (List.mem_of_getElem? (i := 7) rfl)) hK hW hS hSz 44 ((hNL.dead (hno 44 (by decide) (by decide)) (by decide))) (((had 44 (by decide) (by decide)).trans hHs.symm)) 30 (by decide) (by decide) (by decide) (Nat.le_of_ble_eq_true rfl) (Nat.le_of_ble_eq_true rfl) dX5_init_113 (fun N_113 F_113 H hNw113 hS hz113 => ?_)
  obtain ⟨hNs113, hNo113, hNi113, hFe113, hFo113, hW⟩ := hNw113
  have hFc30_113 := (hFo113 30 (by decide)).trans hFe107
  have hNc30_113 := hNs113 _ hNc30_105
  have hFc31_113 := (hFo113 31 (by decide)).trans hFc31_107
  have hNc31_113 := hNs113 _ hNc31_105
  have hFc32_113 := (hFo113 32 (by decide)).trans hFc32_107
  have hNc32_113 := hNs113 _ hNc32_105
  have hFc33_113 := (hFo113 33 (by decide)).trans hFc33_107
  have hNc33_113 := hNs113 _ hNc33_105
  have hFc34_113 := (hFo113 34 (by decide)).trans hFc34_107
  have hNc34_113 := hNs113 _ hNc34_105
  have hFc35_113 := (hFo113 35 (by decide)).trans hFc35_107
  have hNc35_113 := hNs113 _ hNc35_105
  have hFc36_113 := (hFo113 36 (by decide)).trans hFc36_107
  have hNc36_113 := hNs113 _ hNc36_105
  have hFc37_113 := (hFo113 37 (by decide)).trans hFc37_107
  have hNc37_113 := hNs113 _ hNc37_105
  have hFc38_113 := (hFo113 38 (by decide)).trans hFc38_107
  have hNc38_113 := hNs113 _ hNc38_105
  have hFc39_113 := (hFo113 39 (by decide)).trans hFc39_107
  have hNc39_113 := hNs113 _ hNc39_105
  have hFc40_113 := (hFo113 40 (by decide)).trans hFc40_107
  have hNc40_113 := hNs113 _ hNc40_105
  have hFc41_113 := (hFo113 41 (by decide)).trans hFc41_107
  have hNc41_113 := hNs113 _ hNc41_105
  have hFc42_113 := (hFo113 42 (by decide)).trans hFc42_107
  have hNc42_113 := hNs113 _ hNc42_105
  have hFc43_113 := (hFo113 43 (by decide)).trans hFc43_107
  have hNc43_113 := hNs113 _ hNi105
  have hHs : H.size = z0 + 14 := ck_szs hz113 hHs
  clear hz113
  have hSz : G.2.2.2 ≤ H.size := ck_szle hSz0 hHs
  have hsm : ck_sM F F_113 := fun j hj => (hFo113 j (ck_neM hj (by decide))).trans (hsm j hj)
  have hNL := hNL.one hNo113
  have hsub : ∀ i, N i → N_113 i := fun i h => hNs113 i (hsub i h)
  have hKK := hKK0.keep hS.2.1
  clear hNo113 hNs113 hFo113 hFe107 hNc30_105 hFc31_107 hNc31_105 hFc32_107 hNc32_105 hFc33_107 hNc33_105 hFc34_107 hNc34_105 hFc35_107 hNc35_105 hFc36_107 hNc36_105 hFc37_107 hNc37_105 hFc38_107 hNc38_105 hFc39_107 hNc39_105 hFc40_107 hNc40_105 hFc41_107 hNc41_105 hFc42_107 hNc42_105 hFc43_107 hNi105
  refine ck_putF (v := .ref (ad 44)) (ty := (tyX5 17)) hx hb hts hinX5 tyX5 tyX5_ok nmX5 hown hK hW hS hNc30_113 hFc30_113 rfl 17 (by decide) (hts _ (List.mem_of_getElem? (i := 20) rfl)) rfl rfl hinit rfl (by decide +kernel) rfl rfl (Nat.le_of_ble_eq_true rfl) dX5_init_115 (fun H locs hW hS hz115 => ?_)
  obtain ⟨F_115, hFe115, hFo115, hW⟩ := ck_name hW
  have hHs : H.size = z0 + 14 := hz115.trans hHs
  clear hz115
  have hSz : G.2.2.2 ≤ H.size := ck_szle hSz0 hHs
  have hFc31_115 := (hFo115 31 (by decide)).trans hFc31_113
  have hFc32_115 := (hFo115 32 (by decide)).trans hFc32_113
  have hFc33_115 := (hFo115 33 (by decide)).trans hFc33_113
  have hFc34_115 := (hFo115 34 (by decide)).trans hFc34_113
  have hFc35_115 := (hFo115 35 (by decide)).trans hFc35_113
  have hFc36_115 := (hFo115 36 (by decide)).trans hFc36_113
  have hFc37_115 := (hFo115 37 (by decide)).trans hFc37_113
  have hFc38_115 := (hFo115 38 (by decide)).trans hFc38_113
  have hFc39_115 := (hFo115 39 (by decide)).trans hFc39_113
  have hFc40_115 := (hFo115 40 (by decide)).trans hFc40_113
  have hFc41_115 := (hFo115 41 (by decide)).trans hFc41_113
  have hFc42_115 := (hFo115 42 (by decide)).trans hFc42_113
  have hFc43_115 := (hFo115 43 (by decide)).trans hFc43_113
  have hFc44_115 := (hFo115 44 (by decide)).trans hFe113
  have hsm : ck_sM F F_115 := fun j hj => (hFo115 j (ck_neM hj (by decide))).trans (hsm j hj)
  have hKK := hKK0.keep hS.2.1
  clear hFo115 hFc31_113 hFc32_113 hFc33_113 hFc34_113 hFc35_113 hFc36_113 hFc37_113 hFc38_113 hFc39_113 hFc40_113 hFc41_113 hFc42_113 hFc43_113 hFe113 hFc30_113
  exact ct_X5_mid1 B hml hKK0 hS hl hno had hz0 hSz0 hHs hNL hsub hsm hW hNc30_113 hFe115 hNc31_113 hFc31_115 hNc32_113 hFc32_115 hNc33_113 hFc33_115 hNc34_113 hFc34_115 hNc35_113 hFc35_115 hNc36_113 hFc36_115 hNc37_113 hFc37_115 hNc38_113 hFc38_115 hNc39_113 hFc39_115 hNc40_113 hFc40_115 hNc41_113 hFc41_115 hNc42_113 hFc42_115 hNc43_113 hFc43_115 hNi113 hFc44_115
set_option maxHeartbeats 4000000 in
set_option maxRecDepth 100000 in
theorem ct_X5_init (l : Launch) (G : ck_G) (H : Heap) (ad : Nat → Nat) (N : Nat → Prop) (F : Nat → va_E) (hW : ck_W G ad N F H) (hSz : G.2.2.2 ≤ H.size) (hN0 : N 30) (hno : ∀ i, 31 ≤ i → i < 52 → ¬ N i) (had : ck_adM ad H.size) (hF0 : F 30 = .inr (5, [.int 0, .null, .null, .null, .null, .null, .int 0, .null, .null, .null, .null, .null, .null, .null, .int 0, .int 0, .null, .null, .null, .null, .null, .null, .null, .null, .null, .int 0])) : Met l yX5_init wsX5_init ({ frames := 1, cells := 21, slots := 1167, locals := 20 }) (ck_P G H [.ref (ad 30)]) (ck_Qv G (fun H1 => ∃ N1 F1, (∀ i, N i → N1 i) ∧ (∀ i, (i < 30 ∨ 52 ≤ i) → N1 i → N i) ∧ ck_M G ad ck_V0 ck_L0 0 0 0 N1 F1 ∧ ck_sM F F1 ∧ ck_W G ad N1 F1 H1 ∧ H1.size = H.size + 21)) 21 1167 (ck_A G) := by
  refine Met.ofW (cc := cX5_init) (maxL := 2) (ret := none) (by decide) rfl ?_
  intro p e s m args below meth c s₁ B hml hv
  obtain ⟨rfl, hH, hKK⟩ := hv
  subst hH
  have hx := B.exec
  have hb := B.bytes
  have hr := B.returns
  have hts := atoms_spec (ws := wsX5_init) B.pre
  have hown : s.vm.findClass RX5 = some m.cls := findClass_of_methodNamed B.named
  have hlocks := B.notSynchronized
  have hinit : meth.name = "<init>" := (name_of_methodNamed B.named B.method).1
  have hKK0 := hKK
  have hK := hKK.1.1
  have hS : va_S (ck_A G) s.heap s.heap [] := va_S.rf
  have hinX5 : ∀ w ∈ u_ws RX5 TX5 26, w ∈ wsX5_init := by decide +kernel
  have hl := lv_entry ([.ref (ad 30)]) (n := 2) (Nat.le_of_ble_eq_true rfl)
  rw [lg_entry_eq]
  generalize (lg_sl ([.ref (ad 30)]) ++ List.replicate (2 - (lg_sl ([.ref (ad 30)])).length) Slot.unset).toArray = ls at hl ⊢
  have hl : lv_has ls 2 [(0, .ref (ad 30))] := hl
  have hsm : ck_sM F F := fun _ _ => rfl
  have hNL : ck_NL N N [] := fun i h => Or.inl h
  have hsub : ∀ i, N i → N i := fun _ h => h
  obtain ⟨z0, hz0⟩ : ∃ z, z = s.heap.size := ⟨_, rfl⟩
  rw [← hz0] at had
  unfold ck_adM at had
  have hHs : s.heap.size = z0 + 0 := hz0.symm
  have hSz0 : G.2.2.2 ≤ z0 := by rw [hz0]; exact hSz
  refine lv_aload_n hx hb dX5_init_0 rfl (lv_at hl 0 rfl) ?_
  refine W.objInit hx hb hown (hts _ (List.mem_of_getElem? (i := 1) rfl)) (hts _ (List.mem_of_getElem? (i := 2) rfl)) (hts _ (List.mem_of_getElem? (i := 3) rfl)) rfl (hl.1.trans hml.symm) rfl dX5_init_1 (Nat.le_of_ble_eq_true rfl) (Nat.le_of_ble_eq_true rfl) ?_
  refine W.eq (g2 := F0 m 4 ls []) rfl ?_
  refine lv_aload_n hx hb dX5_init_4 rfl (lv_at hl 0 rfl) ?_
  refine lv_iconst (v := 5) hx hb dX5_init_5 (by decide) ?_
  refine ck_put (v := .int 5) (ty := .int) hx hb hts hinX5 tyX5 tyX5_ok nmX5 hown hK hW hS hN0 hF0 rfl 0 (by decide) (hts _ (List.mem_of_getElem? (i := 4) rfl)) rfl rfl (by decide +kernel) rfl rfl (Nat.le_of_ble_eq_true rfl) dX5_init_6 (fun H locs hW hS hz6 => ?_)
  obtain ⟨F_6, hFe6, hFo6, hW⟩ := ck_name hW
  have hHs : H.size = z0 + 0 := hz6.trans hHs
  clear hz6
  have hSz : G.2.2.2 ≤ H.size := ck_szle hSz0 hHs
  have hsm : ck_sM F F_6 := fun j hj => (hFo6 j (ck_neM hj (by decide))).trans (hsm j hj)
  have hKK := hKK0.keep hS.2.1
  clear hFo6 hF0
  refine lv_aload_n hx hb dX5_init_9 rfl (lv_at hl 0 rfl) ?_
  refine lv_sipush (v := 471) hx hb dX5_init_10 (by decide) ?_
  refine ck_newL hx hb (hts _ (List.mem_of_getElem? (i := 5) rfl)) hK hW hS hSz 31 ((hNL.dead (hno 31 (by decide) (by decide)) (by decide))) (((had 31 (by decide) (by decide)).trans hHs.symm)) 471 (by decide) (by decide) (by decide) (Nat.le_of_ble_eq_true rfl) (Nat.le_of_ble_eq_true rfl) dX5_init_13 (fun N_13 F_13 H hNw13 hS hz13 => ?_)
  obtain ⟨hNs13, hNo13, hNi13, hFe13, hFo13, hW⟩ := hNw13
  have hFc30_13 := (hFo13 30 (by decide)).trans hFe6
  have hNc30_13 := hNs13 _ hN0
  have hHs : H.size = z0 + 1 := ck_szs hz13 hHs
  clear hz13
  have hSz : G.2.2.2 ≤ H.size := ck_szle hSz0 hHs
  have hsm : ck_sM F F_13 := fun j hj => (hFo13 j (ck_neM hj (by decide))).trans (hsm j hj)
  have hNL := hNL.one hNo13
  have hsub : ∀ i, N i → N_13 i := fun i h => hNs13 i (hsub i h)
  have hKK := hKK0.keep hS.2.1
  clear hNo13 hNs13 hFo13 hFe6 hN0
  refine ck_putF (v := .ref (ad 31)) (ty := (tyX5 1)) hx hb hts hinX5 tyX5 tyX5_ok nmX5 hown hK hW hS hNc30_13 hFc30_13 rfl 1 (by decide) (hts _ (List.mem_of_getElem? (i := 6) rfl)) rfl rfl hinit rfl (by decide +kernel) rfl rfl (Nat.le_of_ble_eq_true rfl) dX5_init_15 (fun H locs hW hS hz15 => ?_)
  obtain ⟨F_15, hFe15, hFo15, hW⟩ := ck_name hW
  have hHs : H.size = z0 + 1 := hz15.trans hHs
  clear hz15
  have hSz : G.2.2.2 ≤ H.size := ck_szle hSz0 hHs
  have hFc31_15 := (hFo15 31 (by decide)).trans hFe13
  have hsm : ck_sM F F_15 := fun j hj => (hFo15 j (ck_neM hj (by decide))).trans (hsm j hj)
  have hKK := hKK0.keep hS.2.1
  clear hFo15 hFe13 hFc30_13
  refine ck_pc (q := 18) rfl ?_
  refine lv_aload_n hx hb dX5_init_18 rfl (lv_at hl 0 rfl) ?_
  refine lv_iconst (v := 3) hx hb dX5_init_19 (by decide) ?_
  refine ck_newI hx hb (hts _ (List.mem_of_getElem? (i := 7) rfl)) hK hW hS hSz 32 ((hNL.dead (hno 32 (by decide) (by decide)) (by decide))) (((had 32 (by decide) (by decide)).trans hHs.symm)) 3 (by decide) (by decide) (by decide) (Nat.le_of_ble_eq_true rfl) (Nat.le_of_ble_eq_true rfl) dX5_init_20 (fun N_20 F_20 H hNw20 hS hz20 => ?_)
  obtain ⟨hNs20, hNo20, hNi20, hFe20, hFo20, hW⟩ := hNw20
  have hFc30_20 := (hFo20 30 (by decide)).trans hFe15
  have hNc30_20 := hNs20 _ hNc30_13
  have hFc31_20 := (hFo20 31 (by decide)).trans hFc31_15
  have hNc31_20 := hNs20 _ hNi13
  have hHs : H.size = z0 + 2 := ck_szs hz20 hHs
  clear hz20
  have hSz : G.2.2.2 ≤ H.size := ck_szle hSz0 hHs
  have hsm : ck_sM F F_20 := fun j hj => (hFo20 j (ck_neM hj (by decide))).trans (hsm j hj)
  have hNL := hNL.one hNo20
  have hsub : ∀ i, N i → N_20 i := fun i h => hNs20 i (hsub i h)
  have hKK := hKK0.keep hS.2.1
  clear hNo20 hNs20 hFo20 hFe15 hNc30_13 hFc31_15 hNi13
  refine ck_putF (v := .ref (ad 32)) (ty := (tyX5 2)) hx hb hts hinX5 tyX5 tyX5_ok nmX5 hown hK hW hS hNc30_20 hFc30_20 rfl 2 (by decide) (hts _ (List.mem_of_getElem? (i := 8) rfl)) rfl rfl hinit rfl (by decide +kernel) rfl rfl (Nat.le_of_ble_eq_true rfl) dX5_init_22 (fun H locs hW hS hz22 => ?_)
  obtain ⟨F_22, hFe22, hFo22, hW⟩ := ck_name hW
  have hHs : H.size = z0 + 2 := hz22.trans hHs
  clear hz22
  have hSz : G.2.2.2 ≤ H.size := ck_szle hSz0 hHs
  have hFc31_22 := (hFo22 31 (by decide)).trans hFc31_20
  have hFc32_22 := (hFo22 32 (by decide)).trans hFe20
  have hsm : ck_sM F F_22 := fun j hj => (hFo22 j (ck_neM hj (by decide))).trans (hsm j hj)
  have hKK := hKK0.keep hS.2.1
  clear hFo22 hFc31_20 hFe20 hFc30_20
  refine lv_aload_n hx hb dX5_init_25 rfl (lv_at hl 0 rfl) ?_
  refine lv_iconst (v := 3) hx hb dX5_init_26 (by decide) ?_
  refine ck_newI hx hb (hts _ (List.mem_of_getElem? (i := 7) rfl)) hK hW hS hSz 33 ((hNL.dead (hno 33 (by decide) (by decide)) (by decide))) (((had 33 (by decide) (by decide)).trans hHs.symm)) 3 (by decide) (by decide) (by decide) (Nat.le_of_ble_eq_true rfl) (Nat.le_of_ble_eq_true rfl) dX5_init_27 (fun N_27 F_27 H hNw27 hS hz27 => ?_)
  obtain ⟨hNs27, hNo27, hNi27, hFe27, hFo27, hW⟩ := hNw27
  have hFc30_27 := (hFo27 30 (by decide)).trans hFe22
  have hNc30_27 := hNs27 _ hNc30_20
  have hFc31_27 := (hFo27 31 (by decide)).trans hFc31_22
  have hNc31_27 := hNs27 _ hNc31_20
  have hFc32_27 := (hFo27 32 (by decide)).trans hFc32_22
  have hNc32_27 := hNs27 _ hNi20
  have hHs : H.size = z0 + 3 := ck_szs hz27 hHs
  clear hz27
  have hSz : G.2.2.2 ≤ H.size := ck_szle hSz0 hHs
  have hsm : ck_sM F F_27 := fun j hj => (hFo27 j (ck_neM hj (by decide))).trans (hsm j hj)
  have hNL := hNL.one hNo27
  have hsub : ∀ i, N i → N_27 i := fun i h => hNs27 i (hsub i h)
  have hKK := hKK0.keep hS.2.1
  clear hNo27 hNs27 hFo27 hFe22 hNc30_20 hFc31_22 hNc31_20 hFc32_22 hNi20
  refine ck_putF (v := .ref (ad 33)) (ty := (tyX5 3)) hx hb hts hinX5 tyX5 tyX5_ok nmX5 hown hK hW hS hNc30_27 hFc30_27 rfl 3 (by decide) (hts _ (List.mem_of_getElem? (i := 9) rfl)) rfl rfl hinit rfl (by decide +kernel) rfl rfl (Nat.le_of_ble_eq_true rfl) dX5_init_29 (fun H locs hW hS hz29 => ?_)
  obtain ⟨F_29, hFe29, hFo29, hW⟩ := ck_name hW
  have hHs : H.size = z0 + 3 := hz29.trans hHs
  clear hz29
  have hSz : G.2.2.2 ≤ H.size := ck_szle hSz0 hHs
  have hFc31_29 := (hFo29 31 (by decide)).trans hFc31_27
  have hFc32_29 := (hFo29 32 (by decide)).trans hFc32_27
  have hFc33_29 := (hFo29 33 (by decide)).trans hFe27
  have hsm : ck_sM F F_29 := fun j hj => (hFo29 j (ck_neM hj (by decide))).trans (hsm j hj)
  have hKK := hKK0.keep hS.2.1
  clear hFo29 hFc31_27 hFc32_27 hFe27 hFc30_27
  refine lv_aload_n hx hb dX5_init_32 rfl (lv_at hl 0 rfl) ?_
  refine lv_iconst (v := 3) hx hb dX5_init_33 (by decide) ?_
  refine ck_pc (q := 34) rfl ?_
  refine ck_newI hx hb (hts _ (List.mem_of_getElem? (i := 7) rfl)) hK hW hS hSz 34 ((hNL.dead (hno 34 (by decide) (by decide)) (by decide))) (((had 34 (by decide) (by decide)).trans hHs.symm)) 3 (by decide) (by decide) (by decide) (Nat.le_of_ble_eq_true rfl) (Nat.le_of_ble_eq_true rfl) dX5_init_34 (fun N_34 F_34 H hNw34 hS hz34 => ?_)
  obtain ⟨hNs34, hNo34, hNi34, hFe34, hFo34, hW⟩ := hNw34
  have hFc30_34 := (hFo34 30 (by decide)).trans hFe29
  have hNc30_34 := hNs34 _ hNc30_27
  have hFc31_34 := (hFo34 31 (by decide)).trans hFc31_29
  have hNc31_34 := hNs34 _ hNc31_27
  have hFc32_34 := (hFo34 32 (by decide)).trans hFc32_29
  have hNc32_34 := hNs34 _ hNc32_27
  have hFc33_34 := (hFo34 33 (by decide)).trans hFc33_29
  have hNc33_34 := hNs34 _ hNi27
  have hHs : H.size = z0 + 4 := ck_szs hz34 hHs
  clear hz34
  have hSz : G.2.2.2 ≤ H.size := ck_szle hSz0 hHs
  have hsm : ck_sM F F_34 := fun j hj => (hFo34 j (ck_neM hj (by decide))).trans (hsm j hj)
  have hNL := hNL.one hNo34
  have hsub : ∀ i, N i → N_34 i := fun i h => hNs34 i (hsub i h)
  have hKK := hKK0.keep hS.2.1
  clear hNo34 hNs34 hFo34 hFe29 hNc30_27 hFc31_29 hNc31_27 hFc32_29 hNc32_27 hFc33_29 hNi27
  refine ck_putF (v := .ref (ad 34)) (ty := (tyX5 4)) hx hb hts hinX5 tyX5 tyX5_ok nmX5 hown hK hW hS hNc30_34 hFc30_34 rfl 4 (by decide) (hts _ (List.mem_of_getElem? (i := 10) rfl)) rfl rfl hinit rfl (by decide +kernel) rfl rfl (Nat.le_of_ble_eq_true rfl) dX5_init_36 (fun H locs hW hS hz36 => ?_)
  obtain ⟨F_36, hFe36, hFo36, hW⟩ := ck_name hW
  have hHs : H.size = z0 + 4 := hz36.trans hHs
  clear hz36
  have hSz : G.2.2.2 ≤ H.size := ck_szle hSz0 hHs
  have hFc31_36 := (hFo36 31 (by decide)).trans hFc31_34
  have hFc32_36 := (hFo36 32 (by decide)).trans hFc32_34
  have hFc33_36 := (hFo36 33 (by decide)).trans hFc33_34
  have hFc34_36 := (hFo36 34 (by decide)).trans hFe34
  have hsm : ck_sM F F_36 := fun j hj => (hFo36 j (ck_neM hj (by decide))).trans (hsm j hj)
  have hKK := hKK0.keep hS.2.1
  clear hFo36 hFc31_34 hFc32_34 hFc33_34 hFe34 hFc30_34
  refine lv_aload_n hx hb dX5_init_39 rfl (lv_at hl 0 rfl) ?_
  refine lv_iconst (v := 3) hx hb dX5_init_40 (by decide) ?_
  refine ck_newI hx hb (hts _ (List.mem_of_getElem? (i := 7) rfl)) hK hW hS hSz 35 ((hNL.dead (hno 35 (by decide) (by decide)) (by decide))) (((had 35 (by decide) (by decide)).trans hHs.symm)) 3 (by decide) (by decide) (by decide) (Nat.le_of_ble_eq_true rfl) (Nat.le_of_ble_eq_true rfl) dX5_init_41 (fun N_41 F_41 H hNw41 hS hz41 => ?_)
  obtain ⟨hNs41, hNo41, hNi41, hFe41, hFo41, hW⟩ := hNw41
  have hFc30_41 := (hFo41 30 (by decide)).trans hFe36
  have hNc30_41 := hNs41 _ hNc30_34
  have hFc31_41 := (hFo41 31 (by decide)).trans hFc31_36
  have hNc31_41 := hNs41 _ hNc31_34
  have hFc32_41 := (hFo41 32 (by decide)).trans hFc32_36
  have hNc32_41 := hNs41 _ hNc32_34
  have hFc33_41 := (hFo41 33 (by decide)).trans hFc33_36
  have hNc33_41 := hNs41 _ hNc33_34
  have hFc34_41 := (hFo41 34 (by decide)).trans hFc34_36
  have hNc34_41 := hNs41 _ hNi34
  have hHs : H.size = z0 + 5 := ck_szs hz41 hHs
  clear hz41
  have hSz : G.2.2.2 ≤ H.size := ck_szle hSz0 hHs
  have hsm : ck_sM F F_41 := fun j hj => (hFo41 j (ck_neM hj (by decide))).trans (hsm j hj)
  have hNL := hNL.one hNo41
  have hsub : ∀ i, N i → N_41 i := fun i h => hNs41 i (hsub i h)
  have hKK := hKK0.keep hS.2.1
  clear hNo41 hNs41 hFo41 hFe36 hNc30_34 hFc31_36 hNc31_34 hFc32_36 hNc32_34 hFc33_36 hNc33_34 hFc34_36 hNi34
  refine ck_putF (v := .ref (ad 35)) (ty := (tyX5 5)) hx hb hts hinX5 tyX5 tyX5_ok nmX5 hown hK hW hS hNc30_41 hFc30_41 rfl 5 (by decide) (hts _ (List.mem_of_getElem? (i := 11) rfl)) rfl rfl hinit rfl (by decide +kernel) rfl rfl (Nat.le_of_ble_eq_true rfl) dX5_init_43 (fun H locs hW hS hz43 => ?_)
  obtain ⟨F_43, hFe43, hFo43, hW⟩ := ck_name hW
  have hHs : H.size = z0 + 5 := hz43.trans hHs
  clear hz43
  have hSz : G.2.2.2 ≤ H.size := ck_szle hSz0 hHs
  have hFc31_43 := (hFo43 31 (by decide)).trans hFc31_41
  have hFc32_43 := (hFo43 32 (by decide)).trans hFc32_41
  have hFc33_43 := (hFo43 33 (by decide)).trans hFc33_41
  have hFc34_43 := (hFo43 34 (by decide)).trans hFc34_41
  have hFc35_43 := (hFo43 35 (by decide)).trans hFe41
  have hsm : ck_sM F F_43 := fun j hj => (hFo43 j (ck_neM hj (by decide))).trans (hsm j hj)
  have hKK := hKK0.keep hS.2.1
  clear hFo43 hFc31_41 hFc32_41 hFc33_41 hFc34_41 hFe41 hFc30_41
  refine lv_aload_n hx hb dX5_init_46 rfl (lv_at hl 0 rfl) ?_
  refine lv_bipush (v := 60) hx hb dX5_init_47 (by decide) ?_
  refine ck_newI hx hb (hts _ (List.mem_of_getElem? (i := 7) rfl)) hK hW hS hSz 36 ((hNL.dead (hno 36 (by decide) (by decide)) (by decide))) (((had 36 (by decide) (by decide)).trans hHs.symm)) 60 (by decide) (by decide) (by decide) (Nat.le_of_ble_eq_true rfl) (Nat.le_of_ble_eq_true rfl) dX5_init_49 (fun N_49 F_49 H hNw49 hS hz49 => ?_)
  obtain ⟨hNs49, hNo49, hNi49, hFe49, hFo49, hW⟩ := hNw49
  have hFc30_49 := (hFo49 30 (by decide)).trans hFe43
  have hNc30_49 := hNs49 _ hNc30_41
  have hFc31_49 := (hFo49 31 (by decide)).trans hFc31_43
  have hNc31_49 := hNs49 _ hNc31_41
  have hFc32_49 := (hFo49 32 (by decide)).trans hFc32_43
  have hNc32_49 := hNs49 _ hNc32_41
  have hFc33_49 := (hFo49 33 (by decide)).trans hFc33_43
  have hNc33_49 := hNs49 _ hNc33_41
  have hFc34_49 := (hFo49 34 (by decide)).trans hFc34_43
  have hNc34_49 := hNs49 _ hNc34_41
  have hFc35_49 := (hFo49 35 (by decide)).trans hFc35_43
  have hNc35_49 := hNs49 _ hNi41
  have hHs : H.size = z0 + 6 := ck_szs hz49 hHs
  clear hz49
  have hSz : G.2.2.2 ≤ H.size := ck_szle hSz0 hHs
  have hsm : ck_sM F F_49 := fun j hj => (hFo49 j (ck_neM hj (by decide))).trans (hsm j hj)
  have hNL := hNL.one hNo49
  have hsub : ∀ i, N i → N_49 i := fun i h => hNs49 i (hsub i h)
  have hKK := hKK0.keep hS.2.1
  clear hNo49 hNs49 hFo49 hFe43 hNc30_41 hFc31_43 hNc31_41 hFc32_43 hNc32_41 hFc33_43 hNc33_41 hFc34_43 hNc34_41 hFc35_43 hNi41
  refine ck_putF (v := .ref (ad 36)) (ty := (tyX5 7)) hx hb hts hinX5 tyX5 tyX5_ok nmX5 hown hK hW hS hNc30_49 hFc30_49 rfl 7 (by decide) (hts _ (List.mem_of_getElem? (i := 12) rfl)) rfl rfl hinit rfl (by decide +kernel) rfl rfl (Nat.le_of_ble_eq_true rfl) dX5_init_51 (fun H locs hW hS hz51 => ?_)
  obtain ⟨F_51, hFe51, hFo51, hW⟩ := ck_name hW
  have hHs : H.size = z0 + 6 := hz51.trans hHs
  clear hz51
  have hSz : G.2.2.2 ≤ H.size := ck_szle hSz0 hHs
  have hFc31_51 := (hFo51 31 (by decide)).trans hFc31_49
  have hFc32_51 := (hFo51 32 (by decide)).trans hFc32_49
  have hFc33_51 := (hFo51 33 (by decide)).trans hFc33_49
  have hFc34_51 := (hFo51 34 (by decide)).trans hFc34_49
  have hFc35_51 := (hFo51 35 (by decide)).trans hFc35_49
  have hFc36_51 := (hFo51 36 (by decide)).trans hFe49
  have hsm : ck_sM F F_51 := fun j hj => (hFo51 j (ck_neM hj (by decide))).trans (hsm j hj)
  have hKK := hKK0.keep hS.2.1
  clear hFo51 hFc31_49 hFc32_49 hFc33_49 hFc34_49 hFc35_49 hFe49 hFc30_49
  refine ck_pc (q := 54) rfl ?_
  refine lv_aload_n hx hb dX5_init_54 rfl (lv_at hl 0 rfl) ?_
  refine lv_bipush (v := 60) hx hb dX5_init_55 (by decide) ?_
  refine ck_newI hx hb (hts _ (List.mem_of_getElem? (i := 7) rfl)) hK hW hS hSz 37 ((hNL.dead (hno 37 (by decide) (by decide)) (by decide))) (((had 37 (by decide) (by decide)).trans hHs.symm)) 60 (by decide) (by decide) (by decide) (Nat.le_of_ble_eq_true rfl) (Nat.le_of_ble_eq_true rfl) dX5_init_57 (fun N_57 F_57 H hNw57 hS hz57 => ?_)
  obtain ⟨hNs57, hNo57, hNi57, hFe57, hFo57, hW⟩ := hNw57
  have hFc30_57 := (hFo57 30 (by decide)).trans hFe51
  have hNc30_57 := hNs57 _ hNc30_49
  have hFc31_57 := (hFo57 31 (by decide)).trans hFc31_51
  have hNc31_57 := hNs57 _ hNc31_49
  have hFc32_57 := (hFo57 32 (by decide)).trans hFc32_51
  have hNc32_57 := hNs57 _ hNc32_49
  have hFc33_57 := (hFo57 33 (by decide)).trans hFc33_51
  have hNc33_57 := hNs57 _ hNc33_49
  have hFc34_57 := (hFo57 34 (by decide)).trans hFc34_51
  have hNc34_57 := hNs57 _ hNc34_49
  have hFc35_57 := (hFo57 35 (by decide)).trans hFc35_51
  have hNc35_57 := hNs57 _ hNc35_49
  have hFc36_57 := (hFo57 36 (by decide)).trans hFc36_51
  have hNc36_57 := hNs57 _ hNi49
  have hHs : H.size = z0 + 7 := ck_szs hz57 hHs
  clear hz57
  have hSz : G.2.2.2 ≤ H.size := ck_szle hSz0 hHs
  have hsm : ck_sM F F_57 := fun j hj => (hFo57 j (ck_neM hj (by decide))).trans (hsm j hj)
  have hNL := hNL.one hNo57
  have hsub : ∀ i, N i → N_57 i := fun i h => hNs57 i (hsub i h)
  have hKK := hKK0.keep hS.2.1
  clear hNo57 hNs57 hFo57 hFe51 hNc30_49 hFc31_51 hNc31_49 hFc32_51 hNc32_49 hFc33_51 hNc33_49 hFc34_51 hNc34_49 hFc35_51 hNc35_49 hFc36_51 hNi49
  refine ck_putF (v := .ref (ad 37)) (ty := (tyX5 8)) hx hb hts hinX5 tyX5 tyX5_ok nmX5 hown hK hW hS hNc30_57 hFc30_57 rfl 8 (by decide) (hts _ (List.mem_of_getElem? (i := 13) rfl)) rfl rfl hinit rfl (by decide +kernel) rfl rfl (Nat.le_of_ble_eq_true rfl) dX5_init_59 (fun H locs hW hS hz59 => ?_)
  obtain ⟨F_59, hFe59, hFo59, hW⟩ := ck_name hW
  have hHs : H.size = z0 + 7 := hz59.trans hHs
  clear hz59
  have hSz : G.2.2.2 ≤ H.size := ck_szle hSz0 hHs
  have hFc31_59 := (hFo59 31 (by decide)).trans hFc31_57
  have hFc32_59 := (hFo59 32 (by decide)).trans hFc32_57
  have hFc33_59 := (hFo59 33 (by decide)).trans hFc33_57
  have hFc34_59 := (hFo59 34 (by decide)).trans hFc34_57
  have hFc35_59 := (hFo59 35 (by decide)).trans hFc35_57
  have hFc36_59 := (hFo59 36 (by decide)).trans hFc36_57
  have hFc37_59 := (hFo59 37 (by decide)).trans hFe57
  have hsm : ck_sM F F_59 := fun j hj => (hFo59 j (ck_neM hj (by decide))).trans (hsm j hj)
  have hKK := hKK0.keep hS.2.1
  clear hFo59 hFc31_57 hFc32_57 hFc33_57 hFc34_57 hFc35_57 hFc36_57 hFe57 hFc30_57
  refine lv_aload_n hx hb dX5_init_62 rfl (lv_at hl 0 rfl) ?_
  refine lv_bipush (v := 60) hx hb dX5_init_63 (by decide) ?_
  refine ck_newI hx hb (hts _ (List.mem_of_getElem? (i := 7) rfl)) hK hW hS hSz 38 ((hNL.dead (hno 38 (by decide) (by decide)) (by decide))) (((had 38 (by decide) (by decide)).trans hHs.symm)) 60 (by decide) (by decide) (by decide) (Nat.le_of_ble_eq_true rfl) (Nat.le_of_ble_eq_true rfl) dX5_init_65 (fun N_65 F_65 H hNw65 hS hz65 => ?_)
  obtain ⟨hNs65, hNo65, hNi65, hFe65, hFo65, hW⟩ := hNw65
  have hFc30_65 := (hFo65 30 (by decide)).trans hFe59
  have hNc30_65 := hNs65 _ hNc30_57
  have hFc31_65 := (hFo65 31 (by decide)).trans hFc31_59
  have hNc31_65 := hNs65 _ hNc31_57
  have hFc32_65 := (hFo65 32 (by decide)).trans hFc32_59
  have hNc32_65 := hNs65 _ hNc32_57
  have hFc33_65 := (hFo65 33 (by decide)).trans hFc33_59
  have hNc33_65 := hNs65 _ hNc33_57
  have hFc34_65 := (hFo65 34 (by decide)).trans hFc34_59
  have hNc34_65 := hNs65 _ hNc34_57
  have hFc35_65 := (hFo65 35 (by decide)).trans hFc35_59
  have hNc35_65 := hNs65 _ hNc35_57
  have hFc36_65 := (hFo65 36 (by decide)).trans hFc36_59
  have hNc36_65 := hNs65 _ hNc36_57
  have hFc37_65 := (hFo65 37 (by decide)).trans hFc37_59
  have hNc37_65 := hNs65 _ hNi57
  have hHs : H.size = z0 + 8 := ck_szs hz65 hHs
  clear hz65
  have hSz : G.2.2.2 ≤ H.size := ck_szle hSz0 hHs
  have hsm : ck_sM F F_65 := fun j hj => (hFo65 j (ck_neM hj (by decide))).trans (hsm j hj)
  have hNL := hNL.one hNo65
  have hsub : ∀ i, N i → N_65 i := fun i h => hNs65 i (hsub i h)
  have hKK := hKK0.keep hS.2.1
  clear hNo65 hNs65 hFo65 hFe59 hNc30_57 hFc31_59 hNc31_57 hFc32_59 hNc32_57 hFc33_59 hNc33_57 hFc34_59 hNc34_57 hFc35_59 hNc35_57 hFc36_59 hNc36_57 hFc37_59 hNi57
  refine ck_putF (v := .ref (ad 38)) (ty := (tyX5 9)) hx hb hts hinX5 tyX5 tyX5_ok nmX5 hown hK hW hS hNc30_65 hFc30_65 rfl 9 (by decide) (hts _ (List.mem_of_getElem? (i := 14) rfl)) rfl rfl hinit rfl (by decide +kernel) rfl rfl (Nat.le_of_ble_eq_true rfl) dX5_init_67 (fun H locs hW hS hz67 => ?_)
  obtain ⟨F_67, hFe67, hFo67, hW⟩ := ck_name hW
  have hHs : H.size = z0 + 8 := hz67.trans hHs
  clear hz67
  have hSz : G.2.2.2 ≤ H.size := ck_szle hSz0 hHs
  have hFc31_67 := (hFo67 31 (by decide)).trans hFc31_65
  have hFc32_67 := (hFo67 32 (by decide)).trans hFc32_65
  have hFc33_67 := (hFo67 33 (by decide)).trans hFc33_65
  have hFc34_67 := (hFo67 34 (by decide)).trans hFc34_65
  have hFc35_67 := (hFo67 35 (by decide)).trans hFc35_65
  have hFc36_67 := (hFo67 36 (by decide)).trans hFc36_65
  have hFc37_67 := (hFo67 37 (by decide)).trans hFc37_65
  have hFc38_67 := (hFo67 38 (by decide)).trans hFe65
  have hsm : ck_sM F F_67 := fun j hj => (hFo67 j (ck_neM hj (by decide))).trans (hsm j hj)
  have hKK := hKK0.keep hS.2.1
  clear hFo67 hFc31_65 hFc32_65 hFc33_65 hFc34_65 hFc35_65 hFc36_65 hFc37_65 hFe65 hFc30_65
  refine lv_aload_n hx hb dX5_init_70 rfl (lv_at hl 0 rfl) ?_
  refine lv_bipush (v := 60) hx hb dX5_init_71 (by decide) ?_
  refine ck_pc (q := 73) rfl ?_
  refine ck_newI hx hb (hts _ (List.mem_of_getElem? (i := 7) rfl)) hK hW hS hSz 39 ((hNL.dead (hno 39 (by decide) (by decide)) (by decide))) (((had 39 (by decide) (by decide)).trans hHs.symm)) 60 (by decide) (by decide) (by decide) (Nat.le_of_ble_eq_true rfl) (Nat.le_of_ble_eq_true rfl) dX5_init_73 (fun N_73 F_73 H hNw73 hS hz73 => ?_)
  obtain ⟨hNs73, hNo73, hNi73, hFe73, hFo73, hW⟩ := hNw73
  have hFc30_73 := (hFo73 30 (by decide)).trans hFe67
  have hNc30_73 := hNs73 _ hNc30_65
  have hFc31_73 := (hFo73 31 (by decide)).trans hFc31_67
  have hNc31_73 := hNs73 _ hNc31_65
  have hFc32_73 := (hFo73 32 (by decide)).trans hFc32_67
  have hNc32_73 := hNs73 _ hNc32_65
  have hFc33_73 := (hFo73 33 (by decide)).trans hFc33_67
  have hNc33_73 := hNs73 _ hNc33_65
  have hFc34_73 := (hFo73 34 (by decide)).trans hFc34_67
  have hNc34_73 := hNs73 _ hNc34_65
  have hFc35_73 := (hFo73 35 (by decide)).trans hFc35_67
  have hNc35_73 := hNs73 _ hNc35_65
  have hFc36_73 := (hFo73 36 (by decide)).trans hFc36_67
  have hNc36_73 := hNs73 _ hNc36_65
  have hFc37_73 := (hFo73 37 (by decide)).trans hFc37_67
  have hNc37_73 := hNs73 _ hNc37_65
  have hFc38_73 := (hFo73 38 (by decide)).trans hFc38_67
  have hNc38_73 := hNs73 _ hNi65
  have hHs : H.size = z0 + 9 := ck_szs hz73 hHs
  clear hz73
  have hSz : G.2.2.2 ≤ H.size := ck_szle hSz0 hHs
  have hsm : ck_sM F F_73 := fun j hj => (hFo73 j (ck_neM hj (by decide))).trans (hsm j hj)
  have hNL := hNL.one hNo73
  have hsub : ∀ i, N i → N_73 i := fun i h => hNs73 i (hsub i h)
  have hKK := hKK0.keep hS.2.1
  clear hNo73 hNs73 hFo73 hFe67 hNc30_65 hFc31_67 hNc31_65 hFc32_67 hNc32_65 hFc33_67 hNc33_65 hFc34_67 hNc34_65 hFc35_67 hNc35_65 hFc36_67 hNc36_65 hFc37_67 hNc37_65 hFc38_67 hNi65
  refine ck_putF (v := .ref (ad 39)) (ty := (tyX5 10)) hx hb hts hinX5 tyX5 tyX5_ok nmX5 hown hK hW hS hNc30_73 hFc30_73 rfl 10 (by decide) (hts _ (List.mem_of_getElem? (i := 15) rfl)) rfl rfl hinit rfl (by decide +kernel) rfl rfl (Nat.le_of_ble_eq_true rfl) dX5_init_75 (fun H locs hW hS hz75 => ?_)
  obtain ⟨F_75, hFe75, hFo75, hW⟩ := ck_name hW
  have hHs : H.size = z0 + 9 := hz75.trans hHs
  clear hz75
  have hSz : G.2.2.2 ≤ H.size := ck_szle hSz0 hHs
  have hFc31_75 := (hFo75 31 (by decide)).trans hFc31_73
  have hFc32_75 := (hFo75 32 (by decide)).trans hFc32_73
  have hFc33_75 := (hFo75 33 (by decide)).trans hFc33_73
  have hFc34_75 := (hFo75 34 (by decide)).trans hFc34_73
  have hFc35_75 := (hFo75 35 (by decide)).trans hFc35_73
  have hFc36_75 := (hFo75 36 (by decide)).trans hFc36_73
  have hFc37_75 := (hFo75 37 (by decide)).trans hFc37_73
  have hFc38_75 := (hFo75 38 (by decide)).trans hFc38_73
  have hFc39_75 := (hFo75 39 (by decide)).trans hFe73
  have hsm : ck_sM F F_75 := fun j hj => (hFo75 j (ck_neM hj (by decide))).trans (hsm j hj)
  have hKK := hKK0.keep hS.2.1
  clear hFo75 hFc31_73 hFc32_73 hFc33_73 hFc34_73 hFc35_73 hFc36_73 hFc37_73 hFc38_73 hFe73 hFc30_73
  exact ct_X5_mid0 B hml hKK0 hS hl hno had hz0 hSz0 hHs hNL hsub hsm hW hNc30_73 hFe75 hNc31_73 hFc31_75 hNc32_73 hFc32_75 hNc33_73 hFc33_75 hNc34_73 hFc34_75 hNc35_73 hFc35_75 hNc36_73 hFc36_75 hNc37_73 hFc37_75 hNc38_73 hFc38_75 hNi73 hFc39_75
