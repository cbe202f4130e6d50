set_option maxHeartbeats 4000000 in
set_option maxRecDepth 100000 in
theorem cl_addRate {p : Program} {l : Launch} {e : Env} {s : State} {m : MethodId} {below : List Frame} {meth : Method} {c : Code} {G : ck_G} {b Ln : Nat} {xs : Nat → Int32} (hlt : l.stackTraces = false) (C0 : lw_At p s m meth c b Ln xs) (hKK0 : ck_K G s.heap s) (hGz : G.2.2.2 = s.heap.size) (hLn : Ln ≤ 3584) {i n x0 m0 o0 : Nat} (hi : i + 7 ≤ Ln) (hn : n < 100000) {H : Heap} {locs : List Loc} (hS : va_S (ck_A G) s.heap H locs) (hSt : ck_S G x0 m0 o0 n H) {ls : Array Slot} (hl : lv_has ls 7 [(4, .int (nI i)), (3, .ref o0), (2, .ref m0), (1, .ref x0), (0, .ref b)]) {cells slots : Nat} (hcl : cells + 2 ≤ 601024) (hsl : slots + 14 ≤ 7293034) {Q : State → Prop} (kk : ∀ (H : Heap) (locs : List Loc) (ls : Array Slot), va_S (ck_A G) s.heap H locs → ck_S G x0 m0 o0 (n + 1) H → lv_has ls 7 [(4, .int (nI i)), (3, .ref o0), (2, .ref m0), (1, .ref x0), (0, .ref b)] → W p l e room_1 s m #[.ref b] below meth c H locs (cells + 2) (slots + 14) Q (F0 m 1398 ls [])) : W p l e room_1 s m #[.ref b] below meth c H locs cells slots Q (F0 m 541 ls []) := by
  obtain ⟨hx, hb, hr, hml, hown, hts0, hX, hbl, hlocks, hgv⟩ := C0
  have hts : ∀ w ∈ wsL_law, w.before #[Value.ref b] s = true := fun w h => hts0 w (wsL_law_in w h)
  have hown : s.vm.findClass RL = some m.cls := hown
  have hbA : ¬ ck_A G b := by show ¬ (G.2.2.2 ≤ b); rw [hGz]; omega
  obtain ⟨ad, F, V, L, nc, nr, t, g, hW, hC, hM, hJ, hF52, rfl, rfl, rfl, ha1, ha2⟩ := hSt.fresh
  have hK := hKK0.1.1
  have hKK := hKK0.keep hS.2.1
  obtain ⟨a0, ea0⟩ : ∃ y, xs (nI i + 1).toNatClampNeg = y := ⟨_, rfl⟩
  obtain ⟨a1, ea1⟩ : ∃ y, xs (nI i + 2).toNatClampNeg = y := ⟨_, rfl⟩
  obtain ⟨a2, ea2⟩ : ∃ y, xs (nI i + 3).toNatClampNeg = y := ⟨_, rfl⟩
  obtain ⟨a3, ea3⟩ : ∃ y, xs (nI i + 4).toNatClampNeg = y := ⟨_, rfl⟩
  obtain ⟨a4, ea4⟩ : ∃ y, xs (nI i + 5).toNatClampNeg = y := ⟨_, rfl⟩
  obtain ⟨a5, ea5⟩ : ∃ y, xs (nI i + 6).toNatClampNeg = y := ⟨_, rfl⟩
  refine lv_aload_n hx hb dL_law_541 rfl (lv_at hl 3 rfl) ?_
  refine lv_aload_n hx hb dL_law_542 rfl (lv_at hl 4 rfl) ?_
  refine lv_iload hx hb dL_law_543 (lv_at hl 0 rfl) ?_
  refine lv_iconst (v := 1) hx hb dL_law_545 (by decide) ?_
  refine lv_iadd hx hb dL_law_546 ?_
  refine ck_sld hx hb hX hbl hbA hS (ck_ixs (k := 1) (by omega) hLn) ea0 dL_law_547 ?_
  refine lv_aload_n hx hb dL_law_548 rfl (lv_at hl 4 rfl) ?_
  refine lv_iload hx hb dL_law_549 (lv_at hl 0 rfl) ?_
  refine lv_iconst (v := 2) hx hb dL_law_551 (by decide) ?_
  refine lv_iadd hx hb dL_law_552 ?_
  refine ck_sld hx hb hX hbl hbA hS (ck_ixs (k := 2) (by omega) hLn) ea1 dL_law_553 ?_
  refine lv_aload_n hx hb dL_law_554 rfl (lv_at hl 4 rfl) ?_
  refine lv_iload hx hb dL_law_555 (lv_at hl 0 rfl) ?_
  refine lv_iconst (v := 3) hx hb dL_law_557 (by decide) ?_
  refine lv_iadd hx hb dL_law_558 ?_
  refine ck_sld hx hb hX hbl hbA hS (ck_ixs (k := 3) (by omega) hLn) ea2 dL_law_559 ?_
  refine lv_aload_n hx hb dL_law_560 rfl (lv_at hl 4 rfl) ?_
  refine lv_iload hx hb dL_law_561 (lv_at hl 0 rfl) ?_
  refine lv_iconst (v := 4) hx hb dL_law_563 (by decide) ?_
  refine lv_iadd hx hb dL_law_564 ?_
  refine ck_sld hx hb hX hbl hbA hS (ck_ixs (k := 4) (by omega) hLn) ea3 dL_law_565 ?_
  refine lv_aload_n hx hb dL_law_566 rfl (lv_at hl 4 rfl) ?_
  refine lv_iload hx hb dL_law_567 (lv_at hl 0 rfl) ?_
  refine lv_iconst (v := 5) hx hb dL_law_569 (by decide) ?_
  refine lv_iadd hx hb dL_law_570 ?_
  refine ck_sld hx hb hX hbl hbA hS (ck_ixs (k := 5) (by omega) hLn) ea4 dL_law_571 ?_
  refine lv_aload_n hx hb dL_law_572 rfl (lv_at hl 4 rfl) ?_
  refine lv_iload hx hb dL_law_573 (lv_at hl 0 rfl) ?_
  refine lv_bipush (v := 6) hx hb dL_law_575 (by decide) ?_
  refine lv_iadd hx hb dL_law_577 ?_
  refine ck_sld hx hb hX hbl hbA hS (ck_ixs (k := 6) (by omega) hLn) ea5 dL_law_578 ?_
  refine lv_aload_n hx hb dL_law_579 rfl (lv_at hl 1 rfl) ?_
  refine ck_cLi (As := [.ref (ad 0), .int a0, .int a1, .int a2, .int a3, .int a4, .int a5, .ref (ad 52)]) (rest := []) ⟨hx, hb, hml, hown, hts⟩ hKK (ct_L_addRate l G H ad (ck_Nn nc nr) F hW V L nc nr hC hlt (Or.inr (Or.inl (by decide))) g hF52 a0 a1 a2 a3 a4 a5 (ck_Nn.rate hC.nc) ha2) (vx_cwSW 8 hts gL_law_L_addRate rfl rfl rfl (by decide +kernel) ⟨Nat.le_of_ble_eq_true rfl, Nat.le_of_ble_eq_true rfl⟩) rfl hl rfl (Nat.le_of_ble_eq_true rfl) dL_law_580 ⟨by show cells + 1 ≤ 601024; omega, by show slots + 7 ≤ 7293034; omega⟩ hS (fun kC H locs hP hz hS => ?_)
  obtain ⟨rC, VC, LC, ncC, nrC, N1, F1, g1, hRC, hg1, hF1, hNs, hW, hC1, ho⟩ := hP
  have hM1 : ck_M G ad V L nc nr t N1 F1 := hM.fE ho (fun i h1 h2 => hNs i (Or.inr (Or.inl (by omega))))
  have hKK := hKK0.keep hS.2.1
  refine lv_istore (lv' := [(5, .int kC), (4, .int (nI i)), (3, .ref (ad 52)), (2, .ref (ad 30)), (1, .ref (ad 0)), (0, .ref b)]) hx hb dL_law_583 hl (by decide) rfl (fun ls hl => ?_)
  refine lv_aload_n hx hb dL_law_585 rfl (lv_at hl 3 rfl) ?_
  refine lv_aload_n hx hb dL_law_586 rfl (lv_at hl 5 rfl) ?_
  refine lv_iload hx hb dL_law_587 (lv_at hl 1 rfl) ?_
  refine lv_iconst (v := 1) hx hb dL_law_589 (by decide) ?_
  refine lv_iadd hx hb dL_law_590 ?_
  refine ck_sld hx hb hX hbl hbA hS (ck_ixs (k := 1) (by omega) hLn) ea0 dL_law_591 ?_
  refine lv_aload_n hx hb dL_law_592 rfl (lv_at hl 5 rfl) ?_
  refine lv_iload hx hb dL_law_593 (lv_at hl 1 rfl) ?_
  refine lv_iconst (v := 2) hx hb dL_law_595 (by decide) ?_
  refine lv_iadd hx hb dL_law_596 ?_
  refine ck_sld hx hb hX hbl hbA hS (ck_ixs (k := 2) (by omega) hLn) ea1 dL_law_597 ?_
  refine lv_aload_n hx hb dL_law_598 rfl (lv_at hl 5 rfl) ?_
  refine lv_iload hx hb dL_law_599 (lv_at hl 1 rfl) ?_
  refine lv_iconst (v := 3) hx hb dL_law_601 (by decide) ?_
  refine lv_iadd hx hb dL_law_602 ?_
  refine ck_sld hx hb hX hbl hbA hS (ck_ixs (k := 3) (by omega) hLn) ea2 dL_law_603 ?_
  refine lv_aload_n hx hb dL_law_604 rfl (lv_at hl 5 rfl) ?_
  refine lv_iload hx hb dL_law_605 (lv_at hl 1 rfl) ?_
  refine lv_iconst (v := 4) hx hb dL_law_607 (by decide) ?_
  refine lv_iadd hx hb dL_law_608 ?_
  refine ck_sld hx hb hX hbl hbA hS (ck_ixs (k := 4) (by omega) hLn) ea3 dL_law_609 ?_
  refine lv_aload_n hx hb dL_law_610 rfl (lv_at hl 5 rfl) ?_
  refine lv_iload hx hb dL_law_611 (lv_at hl 1 rfl) ?_
  refine lv_iconst (v := 5) hx hb dL_law_613 (by decide) ?_
  refine lv_iadd hx hb dL_law_614 ?_
  refine ck_sld hx hb hX hbl hbA hS (ck_ixs (k := 5) (by omega) hLn) ea4 dL_law_615 ?_
  refine lv_aload_n hx hb dL_law_616 rfl (lv_at hl 5 rfl) ?_
  refine lv_iload hx hb dL_law_617 (lv_at hl 1 rfl) ?_
  refine lv_bipush (v := 6) hx hb dL_law_619 (by decide) ?_
  refine lv_iadd hx hb dL_law_621 ?_
  refine ck_sld hx hb hX hbl hbA hS (ck_ixs (k := 6) (by omega) hLn) ea5 dL_law_622 ?_
  refine ck_cVw (As := [.int a0, .int a1, .int a2, .int a3, .int a4, .int a5]) (rest := []) ⟨hx, hb, hml, hown, hts⟩ hKK (ct_X5_addRate l G H ad N1 F1 hW V L nc nr t hM1 hJ.1 a0 a1 a2 a3 a4 a5) (cwV 6 hts gL_law_X5_addRate rfl rfl rfl (by decide +kernel) ⟨Nat.le_of_ble_eq_true rfl, Nat.le_of_ble_eq_true rfl⟩) (ck_recv hK hW (hM1.n 30 (by decide) (by decide)) hM1.f30 rfl) rfl hl rfl (Nat.le_of_ble_eq_true rfl) dL_law_623 ⟨by show cells + 1 + 0 ≤ 601024; omega, by show slots + 7 + 0 ≤ 7293034; omega⟩ hS (fun rM H locs hP hz hS => ?_)
  have hKK := hKK0.keep hS.2.1
  obtain ⟨t1, VM, nrM, F2, hRM, hW, hM2, hsM⟩ := hP
  have hsyn : ck_syn n kC rC VC LC ncC nrC t1 rM VM L nc nrM := by obtain ⟨a, rfl, rfl⟩ := hRC; obtain ⟨h1, h2, rfl, rfl, h5⟩ := ck_s_add hJ a hRM; exact ⟨h1, h2, rfl, rfl, rfl, fun _ _ => rfl, by rw [ck_mg_same]; exact h5⟩
  have hNew := ck_S.of hW hC1 hsM hM2 (hNs 52 (Or.inr (Or.inl (by decide)))) hF1 hsyn
  refine lv_istore (lv' := [(6, .int rM), (5, .int kC), (4, .int (nI i)), (3, .ref (ad 52)), (2, .ref (ad 30)), (1, .ref (ad 0)), (0, .ref b)]) hx hb dL_law_626 hl (by decide) rfl (fun ls hl => ?_)
  refine lv_aload_n hx hb dL_law_628 rfl (lv_at hl 4 rfl) ?_
  refine ck_cVi (As := []) (rest := []) ⟨hx, hb, hml, hown, hts⟩ hKK (ct_X5_thrown l G H ad N1 F2 hW VM L nc nrM t1 hM2) (cwV 0 hts gL_law_X5_thrown rfl rfl rfl (by decide +kernel) ⟨Nat.le_of_ble_eq_true rfl, Nat.le_of_ble_eq_true rfl⟩) (ck_recv hK hW (hM2.n 30 (by decide) (by decide)) hM2.f30 rfl) rfl hl rfl (Nat.le_of_ble_eq_true rfl) dL_law_629 ⟨by show cells + 1 + 0 + 0 ≤ 601024; omega, by show slots + 7 + 0 + 0 ≤ 7293034; omega⟩ (fun r_t h_t => ?_)
  subst h_t
  refine lv_iload hx hb dL_law_632 (lv_at hl 1 rfl) ?_
  refine lv_icmp_eq (tgt := 639) hx hb dL_law_634 (by decide) (fun _ => ?_) (fun c9 => absurd hsyn.1 c9)
  refine lv_iload hx hb dL_law_639 (lv_at hl 1 rfl) ?_
  refine lv_if_ne (tgt := 656) hx hb dL_law_641 (by decide) (fun c8 => ?_) (fun c8 => ?_)
  · skip
    refine lv_goto (tgt := 1398) hx hb dL_law_656 (by decide) ?_
    refine W.widen (k := cells + 2) (n := slots + 14) (by omega) (by omega) ?_
    exact kk H locs ls hS hNew (lv_sub hl [2, 3, 4, 5, 6] rfl)
  · skip
    refine lv_aload_n hx hb dL_law_644 rfl (lv_at hl 3 rfl) ?_
    refine lv_iconst (v := 0) hx hb dL_law_645 (by decide) ?_
    refine ck_lald hx hb hK hW (hNs 52 (Or.inr (Or.inl (by decide)))) ((hsM 52 (by decide)).trans hF1) 0 (by decide) (by decide) (by decide) dL_law_646 ?_
    refine lv_iload hx hb dL_law_647 (lv_at hl 0 rfl) ?_
    refine lv_i2l (v := (rM : Int32).toInt64) hx hb dL_law_649 rfl ?_
    refine W.lcmp hx hb dL_law_650 ?_
    refine lv_if_eq (tgt := 656) hx hb dL_law_651 (by decide) (fun _ => ?_) (fun c9 => absurd ((ck_cmp1 _ _).mpr (by rw [hg1 c8, hsyn.2.1 c8])) c9)
    refine lv_goto (tgt := 1398) hx hb dL_law_656 (by decide) ?_
    refine W.widen (k := cells + 2) (n := slots + 14) (by omega) (by omega) ?_
    exact kk H locs ls hS hNew (lv_sub hl [2, 3, 4, 5, 6] rfl)
set_option maxHeartbeats 4000000 in
set_option maxRecDepth 100000 in
theorem cl_rateFor {p : Program} {l : Launch} {e : Env} {s : State} {m : MethodId} {below : List Frame} {meth : Method} {c : Code} {G : ck_G} {b Ln : Nat} {xs : Nat → Int32} (hlt : l.stackTraces = false) (C0 : lw_At p s m meth c b Ln xs) (hKK0 : ck_K G s.heap s) (hGz : G.2.2.2 = s.heap.size) (hLn : Ln ≤ 3584) {i n x0 m0 o0 : Nat} (hi : i + 7 ≤ Ln) (hn : n < 100000) {H : Heap} {locs : List Loc} (hS : va_S (ck_A G) s.heap H locs) (hSt : ck_S G x0 m0 o0 n H) {ls : Array Slot} (hl : lv_has ls 7 [(4, .int (nI i)), (3, .ref o0), (2, .ref m0), (1, .ref x0), (0, .ref b)]) {cells slots : Nat} (hcl : cells + 2 ≤ 601024) (hsl : slots + 14 ≤ 7293034) {Q : State → Prop} (kk : ∀ (H : Heap) (locs : List Loc) (ls : Array Slot), va_S (ck_A G) s.heap H locs → ck_S G x0 m0 o0 (n + 1) H → lv_has ls 7 [(4, .int (nI i)), (3, .ref o0), (2, .ref m0), (1, .ref x0), (0, .ref b)] → W p l e room_1 s m #[.ref b] below meth c H locs (cells + 2) (slots + 14) Q (F0 m 1398 ls [])) : W p l e room_1 s m #[.ref b] below meth c H locs cells slots Q (F0 m 659 ls []) := by
  obtain ⟨hx, hb, hr, hml, hown, hts0, hX, hbl, hlocks, hgv⟩ := C0
  have hts : ∀ w ∈ wsL_law, w.before #[Value.ref b] s = true := fun w h => hts0 w (wsL_law_in w h)
  have hown : s.vm.findClass RL = some m.cls := hown
  have hbA : ¬ ck_A G b := by show ¬ (G.2.2.2 ≤ b); rw [hGz]; omega
  obtain ⟨ad, F, V, L, nc, nr, t, g, hW, hC, hM, hJ, hF52, rfl, rfl, rfl, ha1, ha2⟩ := hSt.fresh
  have hK := hKK0.1.1
  have hKK := hKK0.keep hS.2.1
  obtain ⟨a0, ea0⟩ : ∃ y, xs (nI i + 1).toNatClampNeg = y := ⟨_, rfl⟩
  obtain ⟨a1, ea1⟩ : ∃ y, xs (nI i + 2).toNatClampNeg = y := ⟨_, rfl⟩
  refine lv_aload_n hx hb dL_law_659 rfl (lv_at hl 3 rfl) ?_
  refine lv_aload_n hx hb dL_law_660 rfl (lv_at hl 4 rfl) ?_
  refine lv_iload hx hb dL_law_661 (lv_at hl 0 rfl) ?_
  refine lv_iconst (v := 1) hx hb dL_law_663 (by decide) ?_
  refine lv_iadd hx hb dL_law_664 ?_
  refine ck_sld hx hb hX hbl hbA hS (ck_ixs (k := 1) (by omega) hLn) ea0 dL_law_665 ?_
  refine lv_aload_n hx hb dL_law_666 rfl (lv_at hl 4 rfl) ?_
  refine lv_iload hx hb dL_law_667 (lv_at hl 0 rfl) ?_
  refine lv_iconst (v := 2) hx hb dL_law_669 (by decide) ?_
  refine lv_iadd hx hb dL_law_670 ?_
  refine ck_sld hx hb hX hbl hbA hS (ck_ixs (k := 2) (by omega) hLn) ea1 dL_law_671 ?_
  refine lv_aload_n hx hb dL_law_672 rfl (lv_at hl 1 rfl) ?_
  refine ck_cLi (As := [.ref (ad 0), .int a0, .int a1, .ref (ad 52)]) (rest := []) ⟨hx, hb, hml, hown, hts⟩ hKK (ct_L_rateFor l G H ad (ck_Nn nc nr) F hW V L nc nr hC hlt (Or.inr (Or.inl (by decide))) g hF52 a0 a1) (vx_cwSW 4 hts gL_law_L_rateFor rfl rfl rfl (by decide +kernel) ⟨Nat.le_of_ble_eq_true rfl, Nat.le_of_ble_eq_true rfl⟩) rfl hl rfl (Nat.le_of_ble_eq_true rfl) dL_law_673 ⟨by show cells + 1 ≤ 601024; omega, by show slots + 6 ≤ 7293034; omega⟩ hS (fun kC H locs hP hz hS => ?_)
  obtain ⟨rC, VC, LC, ncC, nrC, N1, F1, g1, hRC, hg1, hF1, hNs, hW, hC1, ho⟩ := hP
  have hM1 : ck_M G ad V L nc nr t N1 F1 := hM.fE ho (fun i h1 h2 => hNs i (Or.inr (Or.inl (by omega))))
  have hKK := hKK0.keep hS.2.1
  refine lv_istore (lv' := [(5, .int kC), (4, .int (nI i)), (3, .ref (ad 52)), (2, .ref (ad 30)), (1, .ref (ad 0)), (0, .ref b)]) hx hb dL_law_676 hl (by decide) rfl (fun ls hl => ?_)
  refine lv_aload_n hx hb dL_law_678 rfl (lv_at hl 3 rfl) ?_
  refine lv_aload_n hx hb dL_law_679 rfl (lv_at hl 5 rfl) ?_
  refine lv_iload hx hb dL_law_680 (lv_at hl 1 rfl) ?_
  refine lv_iconst (v := 1) hx hb dL_law_682 (by decide) ?_
  refine lv_iadd hx hb dL_law_683 ?_
  refine ck_sld hx hb hX hbl hbA hS (ck_ixs (k := 1) (by omega) hLn) ea0 dL_law_684 ?_
  refine lv_aload_n hx hb dL_law_685 rfl (lv_at hl 5 rfl) ?_
  refine lv_iload hx hb dL_law_686 (lv_at hl 1 rfl) ?_
  refine lv_iconst (v := 2) hx hb dL_law_688 (by decide) ?_
  refine lv_iadd hx hb dL_law_689 ?_
  refine ck_sld hx hb hX hbl hbA hS (ck_ixs (k := 2) (by omega) hLn) ea1 dL_law_690 ?_
  refine ck_cVw (As := [.int a0, .int a1]) (rest := []) ⟨hx, hb, hml, hown, hts⟩ hKK (ct_X5_rateFor l G H ad N1 F1 hW V L nc nr t hM1 hJ.1 a0 a1) (cwV 2 hts gL_law_X5_rateFor rfl rfl rfl (by decide +kernel) ⟨Nat.le_of_ble_eq_true rfl, Nat.le_of_ble_eq_true rfl⟩) (ck_recv hK hW (hM1.n 30 (by decide) (by decide)) hM1.f30 rfl) rfl hl rfl (Nat.le_of_ble_eq_true rfl) dL_law_691 ⟨by show cells + 1 + 0 ≤ 601024; omega, by show slots + 6 + 0 ≤ 7293034; omega⟩ hS (fun rM H locs hP hz hS => ?_)
  have hKK := hKK0.keep hS.2.1
  obtain ⟨t1, F2, hRM, hW, hM2, hsM⟩ := hP
  have hsyn : ck_syn n kC rC VC LC ncC nrC t1 rM V L nc nr := ck_sy_ro (RC := fun k r => ck_Rrate V nr a0 a1 k r) (RM := fun k r => ck_Rrate V nr a0 a1 k r) hJ (fun _ _ _ _ a b => ck_u_rate a b) hRC ⟨hRM, rfl, rfl, rfl, rfl⟩
  have hNew := ck_S.of hW hC1 hsM hM2 (hNs 52 (Or.inr (Or.inl (by decide)))) hF1 hsyn
  refine lv_istore (lv' := [(6, .int rM), (5, .int kC), (4, .int (nI i)), (3, .ref (ad 52)), (2, .ref (ad 30)), (1, .ref (ad 0)), (0, .ref b)]) hx hb dL_law_694 hl (by decide) rfl (fun ls hl => ?_)
  refine lv_aload_n hx hb dL_law_696 rfl (lv_at hl 4 rfl) ?_
  refine ck_cVi (As := []) (rest := []) ⟨hx, hb, hml, hown, hts⟩ hKK (ct_X5_thrown l G H ad N1 F2 hW V L nc nr t1 hM2) (cwV 0 hts gL_law_X5_thrown rfl rfl rfl (by decide +kernel) ⟨Nat.le_of_ble_eq_true rfl, Nat.le_of_ble_eq_true rfl⟩) (ck_recv hK hW (hM2.n 30 (by decide) (by decide)) hM2.f30 rfl) rfl hl rfl (Nat.le_of_ble_eq_true rfl) dL_law_697 ⟨by show cells + 1 + 0 + 0 ≤ 601024; omega, by show slots + 6 + 0 + 0 ≤ 7293034; omega⟩ (fun r_t h_t => ?_)
  subst h_t
  refine lv_iload hx hb dL_law_700 (lv_at hl 1 rfl) ?_
  refine lv_icmp_eq (tgt := 707) hx hb dL_law_702 (by decide) (fun _ => ?_) (fun c9 => absurd hsyn.1 c9)
  refine lv_iload hx hb dL_law_707 (lv_at hl 1 rfl) ?_
  refine lv_if_ne (tgt := 724) hx hb dL_law_709 (by decide) (fun c8 => ?_) (fun c8 => ?_)
  · skip
    refine lv_goto (tgt := 1398) hx hb dL_law_724 (by decide) ?_
    refine W.widen (k := cells + 2) (n := slots + 14) (by omega) (by omega) ?_
    exact kk H locs ls hS hNew (lv_sub hl [2, 3, 4, 5, 6] rfl)
  · skip
    refine lv_aload_n hx hb dL_law_712 rfl (lv_at hl 3 rfl) ?_
    refine lv_iconst (v := 0) hx hb dL_law_713 (by decide) ?_
    refine ck_lald hx hb hK hW (hNs 52 (Or.inr (Or.inl (by decide)))) ((hsM 52 (by decide)).trans hF1) 0 (by decide) (by decide) (by decide) dL_law_714 ?_
    refine lv_iload hx hb dL_law_715 (lv_at hl 0 rfl) ?_
    refine lv_i2l (v := (rM : Int32).toInt64) hx hb dL_law_717 rfl ?_
    refine W.lcmp hx hb dL_law_718 ?_
    refine lv_if_eq (tgt := 724) hx hb dL_law_719 (by decide) (fun _ => ?_) (fun c9 => absurd ((ck_cmp1 _ _).mpr (by rw [hg1 c8, hsyn.2.1 c8])) c9)
    refine lv_goto (tgt := 1398) hx hb dL_law_724 (by decide) ?_
    refine W.widen (k := cells + 2) (n := slots + 14) (by omega) (by omega) ?_
    exact kk H locs ls hS hNew (lv_sub hl [2, 3, 4, 5, 6] rfl)
set_option maxHeartbeats 4000000 in
set_option maxRecDepth 100000 in
theorem cl_charge {p : Program} {l : Launch} {e : Env} {s : State} {m : MethodId} {below : List Frame} {meth : Method} {c : Code} {G : ck_G} {b Ln : Nat} {xs : Nat → Int32} (hlt : l.stackTraces = false) (C0 : lw_At p s m meth c b Ln xs) (hKK0 : ck_K G s.heap s) (hGz : G.2.2.2 = s.heap.size) (hLn : Ln ≤ 3584) {i n x0 m0 o0 : Nat} (hi : i + 7 ≤ Ln) (hn : n < 100000) {H : Heap} {locs : List Loc} (hS : va_S (ck_A G) s.heap H locs) (hSt : ck_S G x0 m0 o0 n H) {ls : Array Slot} (hl : lv_has ls 7 [(4, .int (nI i)), (3, .ref o0), (2, .ref m0), (1, .ref x0), (0, .ref b)]) {cells slots : Nat} (hcl : cells + 2 ≤ 601024) (hsl : slots + 14 ≤ 7293034) {Q : State → Prop} (kk : ∀ (H : Heap) (locs : List Loc) (ls : Array Slot), va_S (ck_A G) s.heap H locs → ck_S G x0 m0 o0 (n + 1) H → lv_has ls 7 [(4, .int (nI i)), (3, .ref o0), (2, .ref m0), (1, .ref x0), (0, .ref b)] → W p l e room_1 s m #[.ref b] below meth c H locs (cells + 2) (slots + 14) Q (F0 m 1398 ls [])) : W p l e room_1 s m #[.ref b] below meth c H locs cells slots Q (F0 m 727 ls []) := by
  obtain ⟨hx, hb, hr, hml, hown, hts0, hX, hbl, hlocks, hgv⟩ := C0
  have hts : ∀ w ∈ wsL_law, w.before #[Value.ref b] s = true := fun w h => hts0 w (wsL_law_in w h)
  have hown : s.vm.findClass RL = some m.cls := hown
  have hbA : ¬ ck_A G b := by show ¬ (G.2.2.2 ≤ b); rw [hGz]; omega
  obtain ⟨ad, F, V, L, nc, nr, t, g, hW, hC, hM, hJ, hF52, rfl, rfl, rfl, ha1, ha2⟩ := hSt.fresh
  have hK := hKK0.1.1
  have hKK := hKK0.keep hS.2.1
  obtain ⟨a0, ea0⟩ : ∃ y, xs (nI i + 1).toNatClampNeg = y := ⟨_, rfl⟩
  refine lv_aload_n hx hb dL_law_727 rfl (lv_at hl 3 rfl) ?_
  refine lv_aload_n hx hb dL_law_728 rfl (lv_at hl 4 rfl) ?_
  refine lv_iload hx hb dL_law_729 (lv_at hl 0 rfl) ?_
  refine lv_iconst (v := 1) hx hb dL_law_731 (by decide) ?_
  refine lv_iadd hx hb dL_law_732 ?_
  refine ck_sld hx hb hX hbl hbA hS (ck_ixs (k := 1) (by omega) hLn) ea0 dL_law_733 ?_
  refine lv_aload_n hx hb dL_law_734 rfl (lv_at hl 1 rfl) ?_
  refine ck_cLi (As := [.ref (ad 0), .int a0, .ref (ad 52)]) (rest := []) ⟨hx, hb, hml, hown, hts⟩ hKK (ct_L_charge l G H ad (ck_Nn nc nr) F hW V L nc nr hC hlt (Or.inr (Or.inl (by decide))) g hF52 a0) (vx_cwSW 3 hts gL_law_L_charge rfl rfl rfl (by decide +kernel) ⟨Nat.le_of_ble_eq_true rfl, Nat.le_of_ble_eq_true rfl⟩) rfl hl rfl (Nat.le_of_ble_eq_true rfl) dL_law_735 ⟨by show cells + 1 ≤ 601024; omega, by show slots + 6 ≤ 7293034; omega⟩ hS (fun kC H locs hP hz hS => ?_)
  obtain ⟨rC, VC, LC, ncC, nrC, N1, F1, g1, hRC, hg1, hF1, hNs, hW, hC1, ho⟩ := hP
  have hM1 : ck_M G ad V L nc nr t N1 F1 := hM.fE ho (fun i h1 h2 => hNs i (Or.inr (Or.inl (by omega))))
  have hKK := hKK0.keep hS.2.1
  refine lv_istore (lv' := [(5, .int kC), (4, .int (nI i)), (3, .ref (ad 52)), (2, .ref (ad 30)), (1, .ref (ad 0)), (0, .ref b)]) hx hb dL_law_738 hl (by decide) rfl (fun ls hl => ?_)
  refine lv_aload_n hx hb dL_law_740 rfl (lv_at hl 3 rfl) ?_
  refine lv_aload_n hx hb dL_law_741 rfl (lv_at hl 5 rfl) ?_
  refine lv_iload hx hb dL_law_742 (lv_at hl 1 rfl) ?_
  refine lv_iconst (v := 1) hx hb dL_law_744 (by decide) ?_
  refine lv_iadd hx hb dL_law_745 ?_
  refine ck_sld hx hb hX hbl hbA hS (ck_ixs (k := 1) (by omega) hLn) ea0 dL_law_746 ?_
  refine ck_cVw (As := [.int a0]) (rest := []) ⟨hx, hb, hml, hown, hts⟩ hKK (ct_X5_charge l G H ad N1 F1 hW V L nc nr t hM1 hJ.1 a0) (cwV 1 hts gL_law_X5_charge rfl rfl rfl (by decide +kernel) ⟨Nat.le_of_ble_eq_true rfl, Nat.le_of_ble_eq_true rfl⟩) (ck_recv hK hW (hM1.n 30 (by decide) (by decide)) hM1.f30 rfl) rfl hl rfl (Nat.le_of_ble_eq_true rfl) dL_law_747 ⟨by show cells + 1 + 0 ≤ 601024; omega, by show slots + 6 + 0 ≤ 7293034; omega⟩ hS (fun rM H locs hP hz hS => ?_)
  have hKK := hKK0.keep hS.2.1
  obtain ⟨t1, F2, hRM, hW, hM2, hsM⟩ := hP
  have hsyn : ck_syn n kC rC VC LC ncC nrC t1 rM V L nc nr := ck_sy_ro (RC := fun k r => ck_Rcall2 nc (ck_now V nr) a0 k r) (RM := fun k r => ck_Rcall2 nc (ck_now V nr) a0 k r) hJ (fun _ _ _ _ a b => ck_u_call2 hC.nc a b) hRC ⟨hRM, rfl, rfl, rfl, rfl⟩
  have hNew := ck_S.of hW hC1 hsM hM2 (hNs 52 (Or.inr (Or.inl (by decide)))) hF1 hsyn
  refine lv_istore (lv' := [(6, .int rM), (5, .int kC), (4, .int (nI i)), (3, .ref (ad 52)), (2, .ref (ad 30)), (1, .ref (ad 0)), (0, .ref b)]) hx hb dL_law_750 hl (by decide) rfl (fun ls hl => ?_)
  refine lv_aload_n hx hb dL_law_752 rfl (lv_at hl 4 rfl) ?_
  refine ck_cVi (As := []) (rest := []) ⟨hx, hb, hml, hown, hts⟩ hKK (ct_X5_thrown l G H ad N1 F2 hW V L nc nr t1 hM2) (cwV 0 hts gL_law_X5_thrown rfl rfl rfl (by decide +kernel) ⟨Nat.le_of_ble_eq_true rfl, Nat.le_of_ble_eq_true rfl⟩) (ck_recv hK hW (hM2.n 30 (by decide) (by decide)) hM2.f30 rfl) rfl hl rfl (Nat.le_of_ble_eq_true rfl) dL_law_753 ⟨by show cells + 1 + 0 + 0 ≤ 601024; omega, by show slots + 6 + 0 + 0 ≤ 7293034; omega⟩ (fun r_t h_t => ?_)
  subst h_t
  refine lv_iload hx hb dL_law_756 (lv_at hl 1 rfl) ?_
  refine lv_icmp_eq (tgt := 763) hx hb dL_law_758 (by decide) (fun _ => ?_) (fun c9 => absurd hsyn.1 c9)
  refine lv_iload hx hb dL_law_763 (lv_at hl 1 rfl) ?_
  refine lv_if_ne (tgt := 780) hx hb dL_law_765 (by decide) (fun c8 => ?_) (fun c8 => ?_)
  · skip
    refine lv_goto (tgt := 1398) hx hb dL_law_780 (by decide) ?_
    refine W.widen (k := cells + 2) (n := slots + 14) (by omega) (by omega) ?_
    exact kk H locs ls hS hNew (lv_sub hl [2, 3, 4, 5, 6] rfl)
  · skip
    refine lv_aload_n hx hb dL_law_768 rfl (lv_at hl 3 rfl) ?_
    refine lv_iconst (v := 0) hx hb dL_law_769 (by decide) ?_
    refine ck_lald hx hb hK hW (hNs 52 (Or.inr (Or.inl (by decide)))) ((hsM 52 (by decide)).trans hF1) 0 (by decide) (by decide) (by decide) dL_law_770 ?_
    refine lv_iload hx hb dL_law_771 (lv_at hl 0 rfl) ?_
    refine lv_i2l (v := (rM : Int32).toInt64) hx hb dL_law_773 rfl ?_
    refine W.lcmp hx hb dL_law_774 ?_
    refine lv_if_eq (tgt := 780) hx hb dL_law_775 (by decide) (fun _ => ?_) (fun c9 => absurd ((ck_cmp1 _ _).mpr (by rw [hg1 c8, hsyn.2.1 c8])) c9)
    refine lv_goto (tgt := 1398) hx hb dL_law_780 (by decide) ?_
    refine W.widen (k := cells + 2) (n := slots + 14) (by omega) (by omega) ?_
    exact kk H locs ls hS hNew (lv_sub hl [2, 3, 4, 5, 6] rfl)
set_option maxHeartbeats 4000000 in
set_option maxRecDepth 100000 in
theorem cl_book {p : Program} {l : Launch} {e : Env} {s : State} {m : MethodId} {below : List Frame} {meth : Method} {c : Code} {G : ck_G} {b Ln : Nat} {xs : Nat → Int32} (hlt : l.stackTraces = false) (C0 : lw_At p s m meth c b Ln xs) (hKK0 : ck_K G s.heap s) (hGz : G.2.2.2 = s.heap.size) (hLn : Ln ≤ 3584) {i n x0 m0 o0 : Nat} (hi : i + 7 ≤ Ln) (hn : n < 100000) {H : Heap} {locs : List Loc} (hS : va_S (ck_A G) s.heap H locs) (hSt : ck_S G x0 m0 o0 n H) {ls : Array Slot} (hl : lv_has ls 7 [(4, .int (nI i)), (3, .ref o0), (2, .ref m0), (1, .ref x0), (0, .ref b)]) {cells slots : Nat} (hcl : cells + 2 ≤ 601024) (hsl : slots + 14 ≤ 7293034) {Q : State → Prop} (kk : ∀ (H : Heap) (locs : List Loc) (ls : Array Slot), va_S (ck_A G) s.heap H locs → ck_S G x0 m0 o0 (n + 1) H → lv_has ls 7 [(4, .int (nI i)), (3, .ref o0), (2, .ref m0), (1, .ref x0), (0, .ref b)] → W p l e room_1 s m #[.ref b] below meth c H locs (cells + 2) (slots + 14) Q (F0 m 1398 ls [])) : W p l e room_1 s m #[.ref b] below meth c H locs cells slots Q (F0 m 783 ls []) := by
  obtain ⟨hx, hb, hr, hml, hown, hts0, hX, hbl, hlocks, hgv⟩ := C0
  have hts : ∀ w ∈ wsL_law, w.before #[Value.ref b] s = true := fun w h => hts0 w (wsL_law_in w h)
  have hown : s.vm.findClass RL = some m.cls := hown
  have hbA : ¬ ck_A G b := by show ¬ (G.2.2.2 ≤ b); rw [hGz]; omega
  obtain ⟨ad, F, V, L, nc, nr, t, g, hW, hC, hM, hJ, hF52, rfl, rfl, rfl, ha1, ha2⟩ := hSt.fresh
  have hK := hKK0.1.1
  have hKK := hKK0.keep hS.2.1
  refine lv_aload_n hx hb dL_law_783 rfl (lv_at hl 3 rfl) ?_
  refine ck_cVw (As := []) (rest := []) ⟨hx, hb, hml, hown, hts⟩ hKK (ct_X4_book l G H ad (ck_Nn nc nr) F hW V L nc nr hC) (cwV 0 hts gL_law_X4_book rfl rfl rfl (by decide +kernel) ⟨Nat.le_of_ble_eq_true rfl, Nat.le_of_ble_eq_true rfl⟩) (ck_recv hK hW (hC.n 0 (by decide)) hC.f0 rfl) rfl hl rfl (Nat.le_of_ble_eq_true rfl) dL_law_784 ⟨by show cells + 0 ≤ 601024; omega, by show slots + 0 ≤ 7293034; omega⟩ hS (fun r_1 H locs hP hz hS => ?_)
  have hKK := hKK0.keep hS.2.1
  obtain ⟨VC, F1, ⟨hr1, hv1⟩, hW, hC1, hsD⟩ := hP
  subst hr1 hv1
  have hM1 : ck_M G ad V L nc nr t (ck_Nn nc nr) F1 := hM.fE (fun i h1 h2 => hsD i h1 (by omega)) (fun i h1 h2 => Or.inr (Or.inl (by omega)))
  refine lv_aload_n hx hb dL_law_787 rfl (lv_at hl 2 rfl) ?_
  refine ck_cVw (As := []) (rest := [.int (ck_bcn V nr nc)]) ⟨hx, hb, hml, hown, hts⟩ hKK (ct_X5_book l G H ad (ck_Nn nc nr) F1 hW V L nc nr t hM1 hJ.1) (cwV 0 hts gL_law_X5_book rfl rfl rfl (by decide +kernel) ⟨Nat.le_of_ble_eq_true rfl, Nat.le_of_ble_eq_true rfl⟩) (ck_recv hK hW (hM1.n 30 (by decide) (by decide)) hM1.f30 rfl) rfl hl rfl (Nat.le_of_ble_eq_true rfl) dL_law_788 ⟨by show cells + 0 + 0 ≤ 601024; omega, by show slots + 0 + 0 ≤ 7293034; omega⟩ hS (fun rM H locs hP hz hS => ?_)
  have hKK := hKK0.keep hS.2.1
  obtain ⟨t1, VM, F2, ⟨ht1, hrM, hvM⟩, hW, hM2, hsM⟩ := hP
  subst hvM
  have hsyn : ck_syn n 0 0 (va_up V 5 (ck_bkd V nr nc)) L nc nr 0 0 (va_up V 5 (ck_bkd V nr nc)) L nc nr := ⟨rfl, fun _ => rfl, rfl, rfl, rfl, fun _ _ => rfl, by rw [ck_mg_same]; exact ck_s_book hJ⟩
  have hNew := ck_S.of hW hC1 hsM hM2 (Or.inr (Or.inl (by decide))) ((hsD 52 (by decide) (by decide)).trans hF52) hsyn
  refine lv_icmp_eq (tgt := 1398) hx hb dL_law_791 (by decide) (fun _ => ?_) (fun c9 => absurd hrM.symm c9)
  refine W.widen (k := cells + 2) (n := slots + 14) (by omega) (by omega) ?_
  exact kk H locs ls hS hNew (lv_sub hl [0, 1, 2, 3, 4] rfl)
set_option maxHeartbeats 4000000 in
set_option maxRecDepth 100000 in
theorem cl_booked {p : Program} {l : Launch} {e : Env} {s : State} {m : MethodId} {below : List Frame} {meth : Method} {c : Code} {G : ck_G} {b Ln : Nat} {xs : Nat → Int32} (hlt : l.stackTraces = false) (C0 : lw_At p s m meth c b Ln xs) (hKK0 : ck_K G s.heap s) (hGz : G.2.2.2 = s.heap.size) (hLn : Ln ≤ 3584) {i n x0 m0 o0 : Nat} (hi : i + 7 ≤ Ln) (hn : n < 100000) {H : Heap} {locs : List Loc} (hS : va_S (ck_A G) s.heap H locs) (hSt : ck_S G x0 m0 o0 n H) {ls : Array Slot} (hl : lv_has ls 7 [(4, .int (nI i)), (3, .ref o0), (2, .ref m0), (1, .ref x0), (0, .ref b)]) {cells slots : Nat} (hcl : cells + 2 ≤ 601024) (hsl : slots + 14 ≤ 7293034) {Q : State → Prop} (kk : ∀ (H : Heap) (locs : List Loc) (ls : Array Slot), va_S (ck_A G) s.heap H locs → ck_S G x0 m0 o0 (n + 1) H → lv_has ls 7 [(4, .int (nI i)), (3, .ref o0), (2, .ref m0), (1, .ref x0), (0, .ref b)] → W p l e room_1 s m #[.ref b] below meth c H locs (cells + 2) (slots + 14) Q (F0 m 1398 ls [])) : W p l e room_1 s m #[.ref b] below meth c H locs cells slots Q (F0 m 796 ls []) := by
  obtain ⟨hx, hb, hr, hml, hown, hts0, hX, hbl, hlocks, hgv⟩ := C0
  have hts : ∀ w ∈ wsL_law, w.before #[Value.ref b] s = true := fun w h => hts0 w (wsL_law_in w h)
  have hown : s.vm.findClass RL = some m.cls := hown
  have hbA : ¬ ck_A G b := by show ¬ (G.2.2.2 ≤ b); rw [hGz]; omega
  obtain ⟨ad, F, V, L, nc, nr, t, g, hW, hC, hM, hJ, hF52, rfl, rfl, rfl, ha1, ha2⟩ := hSt.fresh
  have hK := hKK0.1.1
  have hKK := hKK0.keep hS.2.1
  obtain ⟨a0, ea0⟩ : ∃ y, xs (nI i + 1).toNatClampNeg = y := ⟨_, rfl⟩
  refine lv_aload_n hx hb dL_law_796 rfl (lv_at hl 3 rfl) ?_
  refine lv_aload_n hx hb dL_law_797 rfl (lv_at hl 4 rfl) ?_
  refine lv_iload hx hb dL_law_798 (lv_at hl 0 rfl) ?_
  refine lv_iconst (v := 1) hx hb dL_law_800 (by decide) ?_
  refine lv_iadd hx hb dL_law_801 ?_
  refine ck_sld hx hb hX hbl hbA hS (ck_ixs (k := 1) (by omega) hLn) ea0 dL_law_802 ?_
  refine lv_aload_n hx hb dL_law_803 rfl (lv_at hl 1 rfl) ?_
  refine ck_cLi (As := [.ref (ad 0), .int a0, .ref (ad 52)]) (rest := []) ⟨hx, hb, hml, hown, hts⟩ hKK (ct_L_booked l G H ad (ck_Nn nc nr) F hW V L nc nr hC hlt (Or.inr (Or.inl (by decide))) g hF52 a0) (vx_cwSW 3 hts gL_law_L_booked rfl rfl rfl (by decide +kernel) ⟨Nat.le_of_ble_eq_true rfl, Nat.le_of_ble_eq_true rfl⟩) rfl hl rfl (Nat.le_of_ble_eq_true rfl) dL_law_804 ⟨by show cells + 1 ≤ 601024; omega, by show slots + 6 ≤ 7293034; omega⟩ hS (fun kC H locs hP hz hS => ?_)
  obtain ⟨rC, VC, LC, ncC, nrC, N1, F1, g1, hRC, hg1, hF1, hNs, hW, hC1, ho⟩ := hP
  have hM1 : ck_M G ad V L nc nr t N1 F1 := hM.fE ho (fun i h1 h2 => hNs i (Or.inr (Or.inl (by omega))))
  have hKK := hKK0.keep hS.2.1
  refine lv_istore (lv' := [(5, .int kC), (4, .int (nI i)), (3, .ref (ad 52)), (2, .ref (ad 30)), (1, .ref (ad 0)), (0, .ref b)]) hx hb dL_law_807 hl (by decide) rfl (fun ls hl => ?_)
  refine lv_aload_n hx hb dL_law_809 rfl (lv_at hl 3 rfl) ?_
  refine lv_aload_n hx hb dL_law_810 rfl (lv_at hl 5 rfl) ?_
  refine lv_iload hx hb dL_law_811 (lv_at hl 1 rfl) ?_
  refine lv_iconst (v := 1) hx hb dL_law_813 (by decide) ?_
  refine lv_iadd hx hb dL_law_814 ?_
  refine ck_sld hx hb hX hbl hbA hS (ck_ixs (k := 1) (by omega) hLn) ea0 dL_law_815 ?_
  refine ck_cVw (As := [.int a0]) (rest := []) ⟨hx, hb, hml, hown, hts⟩ hKK (ct_X5_booked l G H ad N1 F1 hW V L nc nr t hM1 hJ.1 a0) (cwV 1 hts gL_law_X5_booked rfl rfl rfl (by decide +kernel) ⟨Nat.le_of_ble_eq_true rfl, Nat.le_of_ble_eq_true rfl⟩) (ck_recv hK hW (hM1.n 30 (by decide) (by decide)) hM1.f30 rfl) rfl hl rfl (Nat.le_of_ble_eq_true rfl) dL_law_816 ⟨by show cells + 1 + 0 ≤ 601024; omega, by show slots + 6 + 0 ≤ 7293034; omega⟩ hS (fun rM H locs hP hz hS => ?_)
  have hKK := hKK0.keep hS.2.1
  obtain ⟨t1, F2, hRM, hW, hM2, hsM⟩ := hP
  have hsyn : ck_syn n kC rC VC LC ncC nrC t1 rM V L nc nr := ck_sy_ro (RC := fun k r => ck_Rcall2 nc (V 5) a0 k r) (RM := fun k r => ck_Rcall2 nc (V 5) a0 k r) hJ (fun _ _ _ _ a b => ck_u_call2 hC.nc a b) hRC ⟨hRM, rfl, rfl, rfl, rfl⟩
  have hNew := ck_S.of hW hC1 hsM hM2 (hNs 52 (Or.inr (Or.inl (by decide)))) hF1 hsyn
  refine lv_istore (lv' := [(6, .int rM), (5, .int kC), (4, .int (nI i)), (3, .ref (ad 52)), (2, .ref (ad 30)), (1, .ref (ad 0)), (0, .ref b)]) hx hb dL_law_819 hl (by decide) rfl (fun ls hl => ?_)
  refine lv_aload_n hx hb dL_law_821 rfl (lv_at hl 4 rfl) ?_
  refine ck_cVi (As := []) (rest := []) ⟨hx, hb, hml, hown, hts⟩ hKK (ct_X5_thrown l G H ad N1 F2 hW V L nc nr t1 hM2) (cwV 0 hts gL_law_X5_thrown rfl rfl rfl (by decide +kernel) ⟨Nat.le_of_ble_eq_true rfl, Nat.le_of_ble_eq_true rfl⟩) (ck_recv hK hW (hM2.n 30 (by decide) (by decide)) hM2.f30 rfl) rfl hl rfl (Nat.le_of_ble_eq_true rfl) dL_law_822 ⟨by show cells + 1 + 0 + 0 ≤ 601024; omega, by show slots + 6 + 0 + 0 ≤ 7293034; omega⟩ (fun r_t h_t => ?_)
  subst h_t
  refine lv_iload hx hb dL_law_825 (lv_at hl 1 rfl) ?_
  refine lv_icmp_eq (tgt := 832) hx hb dL_law_827 (by decide) (fun _ => ?_) (fun c9 => absurd hsyn.1 c9)
  refine lv_iload hx hb dL_law_832 (lv_at hl 1 rfl) ?_
  refine lv_if_ne (tgt := 849) hx hb dL_law_834 (by decide) (fun c8 => ?_) (fun c8 => ?_)
  · skip
    refine lv_goto (tgt := 1398) hx hb dL_law_849 (by decide) ?_
    refine W.widen (k := cells + 2) (n := slots + 14) (by omega) (by omega) ?_
    exact kk H locs ls hS hNew (lv_sub hl [2, 3, 4, 5, 6] rfl)
  · skip
    refine lv_aload_n hx hb dL_law_837 rfl (lv_at hl 3 rfl) ?_
    refine lv_iconst (v := 0) hx hb dL_law_838 (by decide) ?_
    refine ck_lald hx hb hK hW (hNs 52 (Or.inr (Or.inl (by decide)))) ((hsM 52 (by decide)).trans hF1) 0 (by decide) (by decide) (by decide) dL_law_839 ?_
    refine lv_iload hx hb dL_law_840 (lv_at hl 0 rfl) ?_
    refine lv_i2l (v := (rM : Int32).toInt64) hx hb dL_law_842 rfl ?_
    refine W.lcmp hx hb dL_law_843 ?_
    refine lv_if_eq (tgt := 849) hx hb dL_law_844 (by decide) (fun _ => ?_) (fun c9 => absurd ((ck_cmp1 _ _).mpr (by rw [hg1 c8, hsyn.2.1 c8])) c9)
    refine lv_goto (tgt := 1398) hx hb dL_law_849 (by decide) ?_
    refine W.widen (k := cells + 2) (n := slots + 14) (by omega) (by omega) ?_
    exact kk H locs ls hS hNew (lv_sub hl [2, 3, 4, 5, 6] rfl)
set_option maxHeartbeats 4000000 in
set_option maxRecDepth 100000 in
theorem cl_correct {p : Program} {l : Launch} {e : Env} {s : State} {m : MethodId} {below : List Frame} {meth : Method} {c : Code} {G : ck_G} {b Ln : Nat} {xs : Nat → Int32} (hlt : l.stackTraces = false) (C0 : lw_At p s m meth c b Ln xs) (hKK0 : ck_K G s.heap s) (hGz : G.2.2.2 = s.heap.size) (hLn : Ln ≤ 3584) {i n x0 m0 o0 : Nat} (hi : i + 7 ≤ Ln) (hn : n < 100000) {H : Heap} {locs : List Loc} (hS : va_S (ck_A G) s.heap H locs) (hSt : ck_S G x0 m0 o0 n H) {ls : Array Slot} (hl : lv_has ls 7 [(4, .int (nI i)), (3, .ref o0), (2, .ref m0), (1, .ref x0), (0, .ref b)]) {cells slots : Nat} (hcl : cells + 2 ≤ 601024) (hsl : slots + 14 ≤ 7293034) {Q : State → Prop} (kk : ∀ (H : Heap) (locs : List Loc) (ls : Array Slot), va_S (ck_A G) s.heap H locs → ck_S G x0 m0 o0 (n + 1) H → lv_has ls 7 [(4, .int (nI i)), (3, .ref o0), (2, .ref m0), (1, .ref x0), (0, .ref b)] → W p l e room_1 s m #[.ref b] below meth c H locs (cells + 2) (slots + 14) Q (F0 m 1398 ls [])) : W p l e room_1 s m #[.ref b] below meth c H locs cells slots Q (F0 m 852 ls []) := by
  obtain ⟨hx, hb, hr, hml, hown, hts0, hX, hbl, hlocks, hgv⟩ := C0
  have hts : ∀ w ∈ wsL_law, w.before #[Value.ref b] s = true := fun w h => hts0 w (wsL_law_in w h)
  have hown : s.vm.findClass RL = some m.cls := hown
  have hbA : ¬ ck_A G b := by show ¬ (G.2.2.2 ≤ b); rw [hGz]; omega
  obtain ⟨ad, F, V, L, nc, nr, t, g, hW, hC, hM, hJ, hF52, rfl, rfl, rfl, ha1, ha2⟩ := hSt.fresh
  have hK := hKK0.1.1
  have hKK := hKK0.keep hS.2.1
  refine lv_aload_n hx hb dL_law_852 rfl (lv_at hl 3 rfl) ?_
  refine ck_cVw (As := []) (rest := []) ⟨hx, hb, hml, hown, hts⟩ hKK (ct_X4_correct l G H ad (ck_Nn nc nr) F hW V L nc nr hC) (cwV 0 hts gL_law_X4_correct rfl rfl rfl (by decide +kernel) ⟨Nat.le_of_ble_eq_true rfl, Nat.le_of_ble_eq_true rfl⟩) (ck_recv hK hW (hC.n 0 (by decide)) hC.f0 rfl) rfl hl rfl (Nat.le_of_ble_eq_true rfl) dL_law_853 ⟨by show cells + 0 ≤ 601024; omega, by show slots + 0 ≤ 7293034; omega⟩ hS (fun r_1 H locs hP hz hS => ?_)
  have hKK := hKK0.keep hS.2.1
  obtain ⟨VC, F1, ⟨hr1, hv1⟩, hW, hC1, hsD⟩ := hP
  subst hr1 hv1
  have hM1 : ck_M G ad V L nc nr t (ck_Nn nc nr) F1 := hM.fE (fun i h1 h2 => hsD i h1 (by omega)) (fun i h1 h2 => Or.inr (Or.inl (by omega)))
  refine lv_aload_n hx hb dL_law_856 rfl (lv_at hl 2 rfl) ?_
  refine ck_cVw (As := []) (rest := [.int (ck_csm V nr nc)]) ⟨hx, hb, hml, hown, hts⟩ hKK (ct_X5_correct l G H ad (ck_Nn nc nr) F1 hW V L nc nr t hM1 hJ.1) (cwV 0 hts gL_law_X5_correct rfl rfl rfl (by decide +kernel) ⟨Nat.le_of_ble_eq_true rfl, Nat.le_of_ble_eq_true rfl⟩) (ck_recv hK hW (hM1.n 30 (by decide) (by decide)) hM1.f30 rfl) rfl hl rfl (Nat.le_of_ble_eq_true rfl) dL_law_857 ⟨by show cells + 0 + 0 ≤ 601024; omega, by show slots + 0 + 0 ≤ 7293034; omega⟩ hS (fun rM H locs hP hz hS => ?_)
  have hKK := hKK0.keep hS.2.1
  obtain ⟨t1, VM, F2, ⟨ht1, hrM, hvM⟩, hW, hM2, hsM⟩ := hP
  subst hvM
  have hsyn : ck_syn n 0 0 (ck_cV V nr nc) L nc nr 0 0 (ck_cV V nr nc) L nc nr := ⟨rfl, fun _ => rfl, rfl, rfl, rfl, fun _ _ => rfl, by rw [ck_mg_same]; exact ck_s_corr hJ⟩
  have hNew := ck_S.of hW hC1 hsM hM2 (Or.inr (Or.inl (by decide))) ((hsD 52 (by decide) (by decide)).trans hF52) hsyn
  refine lv_icmp_eq (tgt := 1398) hx hb dL_law_860 (by decide) (fun _ => ?_) (fun c9 => absurd hrM.symm c9)
  refine W.widen (k := cells + 2) (n := slots + 14) (by omega) (by omega) ?_
  exact kk H locs ls hS hNew (lv_sub hl [0, 1, 2, 3, 4] rfl)
set_option maxHeartbeats 4000000 in
set_option maxRecDepth 100000 in
theorem cl_corrections {p : Program} {l : Launch} {e : Env} {s : State} {m : MethodId} {below : List Frame} {meth : Method} {c : Code} {G : ck_G} {b Ln : Nat} {xs : Nat → Int32} (hlt : l.stackTraces = false) (C0 : lw_At p s m meth c b Ln xs) (hKK0 : ck_K G s.heap s) (hGz : G.2.2.2 = s.heap.size) (hLn : Ln ≤ 3584) {i n x0 m0 o0 : Nat} (hi : i + 7 ≤ Ln) (hn : n < 100000) {H : Heap} {locs : List Loc} (hS : va_S (ck_A G) s.heap H locs) (hSt : ck_S G x0 m0 o0 n H) {ls : Array Slot} (hl : lv_has ls 7 [(4, .int (nI i)), (3, .ref o0), (2, .ref m0), (1, .ref x0), (0, .ref b)]) {cells slots : Nat} (hcl : cells + 2 ≤ 601024) (hsl : slots + 14 ≤ 7293034) {Q : State → Prop} (kk : ∀ (H : Heap) (locs : List Loc) (ls : Array Slot), va_S (ck_A G) s.heap H locs → ck_S G x0 m0 o0 (n + 1) H → lv_has ls 7 [(4, .int (nI i)), (3, .ref o0), (2, .ref m0), (1, .ref x0), (0, .ref b)] → W p l e room_1 s m #[.ref b] below meth c H locs (cells + 2) (slots + 14) Q (F0 m 1398 ls [])) : W p l e room_1 s m #[.ref b] below meth c H locs cells slots Q (F0 m 865 ls []) := by
  obtain ⟨hx, hb, hr, hml, hown, hts0, hX, hbl, hlocks, hgv⟩ := C0
  have hts : ∀ w ∈ wsL_law, w.before #[Value.ref b] s = true := fun w h => hts0 w (wsL_law_in w h)
  have hown : s.vm.findClass RL = some m.cls := hown
  have hbA : ¬ ck_A G b := by show ¬ (G.2.2.2 ≤ b); rw [hGz]; omega
  obtain ⟨ad, F, V, L, nc, nr, t, g, hW, hC, hM, hJ, hF52, rfl, rfl, rfl, ha1, ha2⟩ := hSt.fresh
  have hK := hKK0.1.1
  have hKK := hKK0.keep hS.2.1
  refine lv_aload_n hx hb dL_law_865 rfl (lv_at hl 3 rfl) ?_
  refine ck_cVi (As := []) (rest := []) ⟨hx, hb, hml, hown, hts⟩ hKK (ct_X4_corrections l G H ad (ck_Nn nc nr) F hW V L nc nr hC) (cwV 0 hts gL_law_X4_corrections rfl rfl rfl (by decide +kernel) ⟨Nat.le_of_ble_eq_true rfl, Nat.le_of_ble_eq_true rfl⟩) (ck_recv hK hW (hC.n 0 (by decide)) hC.f0 rfl) rfl hl rfl (Nat.le_of_ble_eq_true rfl) dL_law_866 ⟨by show cells + 0 ≤ 601024; omega, by show slots + 0 ≤ 7293034; omega⟩ (fun r_1 h_1 => ?_)
  subst h_1
  refine lv_aload_n hx hb dL_law_869 rfl (lv_at hl 2 rfl) ?_
  refine ck_cVw (As := []) (rest := [.int (V 13 1)]) ⟨hx, hb, hml, hown, hts⟩ hKK (ct_X5_corrections l G H ad (ck_Nn nc nr) F hW V L nc nr t hM hJ.1) (cwV 0 hts gL_law_X5_corrections rfl rfl rfl (by decide +kernel) ⟨Nat.le_of_ble_eq_true rfl, Nat.le_of_ble_eq_true rfl⟩) (ck_recv hK hW (hM.n 30 (by decide) (by decide)) hM.f30 rfl) rfl hl rfl (Nat.le_of_ble_eq_true rfl) dL_law_870 ⟨by show cells + 0 ≤ 601024; omega, by show slots + 0 ≤ 7293034; omega⟩ hS (fun rM H locs hP hz hS => ?_)
  have hKK := hKK0.keep hS.2.1
  obtain ⟨t1, F2, ⟨ht1, hrM⟩, hW, hM2, hsM⟩ := hP
  have hsyn : ck_syn n 0 0 V L nc nr 0 0 V L nc nr := ⟨rfl, fun _ => rfl, rfl, rfl, rfl, fun _ _ => rfl, by rw [ck_mg_same]; exact hJ.mono (Nat.le_succ n)⟩
  have hNew := ck_S.of hW hC hsM hM2 (Or.inr (Or.inl (by decide))) hF52 hsyn
  refine lv_icmp_eq (tgt := 1398) hx hb dL_law_873 (by decide) (fun _ => ?_) (fun c9 => absurd hrM.symm c9)
  refine W.widen (k := cells + 2) (n := slots + 14) (by omega) (by omega) ?_
  exact kk H locs ls hS hNew (lv_sub hl [0, 1, 2, 3, 4] rfl)
