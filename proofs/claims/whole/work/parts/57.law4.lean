set_option maxHeartbeats 4000000 in
set_option maxRecDepth 100000 in
theorem cl_total {p : Program} {l : Launch} {e : Env} {s : State} {m : MethodId} {below : List Frame} {meth : Method} {c : Code} {G : ck_G} {b Ln : Nat} {xs : Nat → Int32} (hlt : l.stackTraces = false) (C0 : lw_At p s m meth c b Ln xs) (hKK0 : ck_K G s.heap s) (hGz : G.2.2.2 = s.heap.size) (hLn : Ln ≤ 3584) {i n x0 m0 o0 : Nat} (hi : i + 7 ≤ Ln) (hn : n < 100000) {H : Heap} {locs : List Loc} (hS : va_S (ck_A G) s.heap H locs) (hSt : ck_S G x0 m0 o0 n H) {ls : Array Slot} (hl : lv_has ls 7 [(4, .int (nI i)), (3, .ref o0), (2, .ref m0), (1, .ref x0), (0, .ref b)]) {cells slots : Nat} (hcl : cells + 2 ≤ 601024) (hsl : slots + 14 ≤ 7293034) {Q : State → Prop} (kk : ∀ (H : Heap) (locs : List Loc) (ls : Array Slot), va_S (ck_A G) s.heap H locs → ck_S G x0 m0 o0 (n + 1) H → lv_has ls 7 [(4, .int (nI i)), (3, .ref o0), (2, .ref m0), (1, .ref x0), (0, .ref b)] → W p l e room_1 s m #[.ref b] below meth c H locs (cells + 2) (slots + 14) Q (F0 m 1398 ls [])) : W p l e room_1 s m #[.ref b] below meth c H locs cells slots Q (F0 m 878 ls []) := by
  obtain ⟨hx, hb, hr, hml, hown, hts0, hX, hbl, hlocks, hgv⟩ := C0
  have hts : ∀ w ∈ wsL_law, w.before #[Value.ref b] s = true := fun w h => hts0 w (wsL_law_in w h)
  have hown : s.vm.findClass RL = some m.cls := hown
  have hbA : ¬ ck_A G b := by show ¬ (G.2.2.2 ≤ b); rw [hGz]; omega
  obtain ⟨ad, F, V, L, nc, nr, t, g, hW, hC, hM, hJ, hF52, rfl, rfl, rfl, ha1, ha2⟩ := hSt.fresh
  have hK := hKK0.1.1
  have hKK := hKK0.keep hS.2.1
  obtain ⟨a0, ea0⟩ : ∃ y, xs (nI i + 1).toNatClampNeg = y := ⟨_, rfl⟩
  refine lv_aload_n hx hb dL_law_878 rfl (lv_at hl 3 rfl) ?_
  refine lv_aload_n hx hb dL_law_879 rfl (lv_at hl 4 rfl) ?_
  refine lv_iload hx hb dL_law_880 (lv_at hl 0 rfl) ?_
  refine lv_iconst (v := 1) hx hb dL_law_882 (by decide) ?_
  refine lv_iadd hx hb dL_law_883 ?_
  refine ck_sld hx hb hX hbl hbA hS (ck_ixs (k := 1) (by omega) hLn) ea0 dL_law_884 ?_
  refine lv_aload_n hx hb dL_law_885 rfl (lv_at hl 1 rfl) ?_
  refine ck_cLi (As := [.ref (ad 0), .int a0, .ref (ad 52)]) (rest := []) ⟨hx, hb, hml, hown, hts⟩ hKK (ct_L_total l G H ad (ck_Nn nc nr) F hW V L nc nr hC hlt (Or.inr (Or.inl (by decide))) g hF52 a0) (vx_cwSW 3 hts gL_law_L_total rfl rfl rfl (by decide +kernel) ⟨Nat.le_of_ble_eq_true rfl, Nat.le_of_ble_eq_true rfl⟩) rfl hl rfl (Nat.le_of_ble_eq_true rfl) dL_law_886 ⟨by show cells + 1 ≤ 601024; omega, by show slots + 6 ≤ 7293034; omega⟩ hS (fun kC H locs hP hz hS => ?_)
  obtain ⟨rC, VC, LC, ncC, nrC, N1, F1, g1, hRC, hg1, hF1, hNs, hW, hC1, ho⟩ := hP
  have hM1 : ck_M G ad V L nc nr t N1 F1 := hM.fE ho (fun i h1 h2 => hNs i (Or.inr (Or.inl (by omega))))
  have hKK := hKK0.keep hS.2.1
  refine lv_istore (lv' := [(5, .int kC), (4, .int (nI i)), (3, .ref (ad 52)), (2, .ref (ad 30)), (1, .ref (ad 0)), (0, .ref b)]) hx hb dL_law_889 hl (by decide) rfl (fun ls hl => ?_)
  refine lv_aload_n hx hb dL_law_891 rfl (lv_at hl 3 rfl) ?_
  refine lv_aload_n hx hb dL_law_892 rfl (lv_at hl 5 rfl) ?_
  refine lv_iload hx hb dL_law_893 (lv_at hl 1 rfl) ?_
  refine lv_iconst (v := 1) hx hb dL_law_895 (by decide) ?_
  refine lv_iadd hx hb dL_law_896 ?_
  refine ck_sld hx hb hX hbl hbA hS (ck_ixs (k := 1) (by omega) hLn) ea0 dL_law_897 ?_
  refine ck_cVw (As := [.int a0]) (rest := []) ⟨hx, hb, hml, hown, hts⟩ hKK (ct_X5_total l G H ad N1 F1 hW V L nc nr t hM1 hJ.1 a0) (cwV 1 hts gL_law_X5_total rfl rfl rfl (by decide +kernel) ⟨Nat.le_of_ble_eq_true rfl, Nat.le_of_ble_eq_true rfl⟩) (ck_recv hK hW (hM1.n 30 (by decide) (by decide)) hM1.f30 rfl) rfl hl rfl (Nat.le_of_ble_eq_true rfl) dL_law_898 ⟨by show cells + 1 + 0 ≤ 601024; omega, by show slots + 6 + 0 ≤ 7293034; omega⟩ hS (fun rM H locs hP hz hS => ?_)
  have hKK := hKK0.keep hS.2.1
  obtain ⟨t1, F2, hRM, hW, hM2, hsM⟩ := hP
  have hsyn : ck_syn n kC rC VC LC ncC nrC t1 rM V L nc nr := ck_sy_ro (RC := fun k r => ck_Rsum (fun q => ck_tt V q nc) a0 k r) (RM := fun k r => ck_Rsum (fun q => ck_tt V q nc) a0 k r) hJ (fun _ _ _ _ a b => ck_u_sum a b) hRC ⟨hRM, rfl, rfl, rfl, rfl⟩
  have hNew := ck_S.of hW hC1 hsM hM2 (hNs 52 (Or.inr (Or.inl (by decide)))) hF1 hsyn
  refine lv_istore (lv' := [(6, .int rM), (5, .int kC), (4, .int (nI i)), (3, .ref (ad 52)), (2, .ref (ad 30)), (1, .ref (ad 0)), (0, .ref b)]) hx hb dL_law_901 hl (by decide) rfl (fun ls hl => ?_)
  refine lv_aload_n hx hb dL_law_903 rfl (lv_at hl 4 rfl) ?_
  refine ck_cVi (As := []) (rest := []) ⟨hx, hb, hml, hown, hts⟩ hKK (ct_X5_thrown l G H ad N1 F2 hW V L nc nr t1 hM2) (cwV 0 hts gL_law_X5_thrown rfl rfl rfl (by decide +kernel) ⟨Nat.le_of_ble_eq_true rfl, Nat.le_of_ble_eq_true rfl⟩) (ck_recv hK hW (hM2.n 30 (by decide) (by decide)) hM2.f30 rfl) rfl hl rfl (Nat.le_of_ble_eq_true rfl) dL_law_904 ⟨by show cells + 1 + 0 + 0 ≤ 601024; omega, by show slots + 6 + 0 + 0 ≤ 7293034; omega⟩ (fun r_t h_t => ?_)
  subst h_t
  refine lv_iload hx hb dL_law_907 (lv_at hl 1 rfl) ?_
  refine lv_icmp_eq (tgt := 914) hx hb dL_law_909 (by decide) (fun _ => ?_) (fun c9 => absurd hsyn.1 c9)
  refine lv_iload hx hb dL_law_914 (lv_at hl 1 rfl) ?_
  refine lv_if_ne (tgt := 931) hx hb dL_law_916 (by decide) (fun c8 => ?_) (fun c8 => ?_)
  · skip
    refine lv_goto (tgt := 1398) hx hb dL_law_931 (by decide) ?_
    refine W.widen (k := cells + 2) (n := slots + 14) (by omega) (by omega) ?_
    exact kk H locs ls hS hNew (lv_sub hl [2, 3, 4, 5, 6] rfl)
  · skip
    refine lv_aload_n hx hb dL_law_919 rfl (lv_at hl 3 rfl) ?_
    refine lv_iconst (v := 0) hx hb dL_law_920 (by decide) ?_
    refine ck_lald hx hb hK hW (hNs 52 (Or.inr (Or.inl (by decide)))) ((hsM 52 (by decide)).trans hF1) 0 (by decide) (by decide) (by decide) dL_law_921 ?_
    refine lv_iload hx hb dL_law_922 (lv_at hl 0 rfl) ?_
    refine lv_i2l (v := (rM : Int32).toInt64) hx hb dL_law_924 rfl ?_
    refine W.lcmp hx hb dL_law_925 ?_
    refine lv_if_eq (tgt := 931) hx hb dL_law_926 (by decide) (fun _ => ?_) (fun c9 => absurd ((ck_cmp1 _ _).mpr (by rw [hg1 c8, hsyn.2.1 c8])) c9)
    refine lv_goto (tgt := 1398) hx hb dL_law_931 (by decide) ?_
    refine W.widen (k := cells + 2) (n := slots + 14) (by omega) (by omega) ?_
    exact kk H locs ls hS hNew (lv_sub hl [2, 3, 4, 5, 6] rfl)
set_option maxHeartbeats 4000000 in
set_option maxRecDepth 100000 in
theorem cl_offer {p : Program} {l : Launch} {e : Env} {s : State} {m : MethodId} {below : List Frame} {meth : Method} {c : Code} {G : ck_G} {b Ln : Nat} {xs : Nat → Int32} (hlt : l.stackTraces = false) (C0 : lw_At p s m meth c b Ln xs) (hKK0 : ck_K G s.heap s) (hGz : G.2.2.2 = s.heap.size) (hLn : Ln ≤ 3584) {i n x0 m0 o0 : Nat} (hi : i + 7 ≤ Ln) (hn : n < 100000) {H : Heap} {locs : List Loc} (hS : va_S (ck_A G) s.heap H locs) (hSt : ck_S G x0 m0 o0 n H) {ls : Array Slot} (hl : lv_has ls 7 [(4, .int (nI i)), (3, .ref o0), (2, .ref m0), (1, .ref x0), (0, .ref b)]) {cells slots : Nat} (hcl : cells + 2 ≤ 601024) (hsl : slots + 14 ≤ 7293034) {Q : State → Prop} (kk : ∀ (H : Heap) (locs : List Loc) (ls : Array Slot), va_S (ck_A G) s.heap H locs → ck_S G x0 m0 o0 (n + 1) H → lv_has ls 7 [(4, .int (nI i)), (3, .ref o0), (2, .ref m0), (1, .ref x0), (0, .ref b)] → W p l e room_1 s m #[.ref b] below meth c H locs (cells + 2) (slots + 14) Q (F0 m 1398 ls [])) : W p l e room_1 s m #[.ref b] below meth c H locs cells slots Q (F0 m 934 ls []) := by
  obtain ⟨hx, hb, hr, hml, hown, hts0, hX, hbl, hlocks, hgv⟩ := C0
  have hts : ∀ w ∈ wsL_law, w.before #[Value.ref b] s = true := fun w h => hts0 w (wsL_law_in w h)
  have hown : s.vm.findClass RL = some m.cls := hown
  have hbA : ¬ ck_A G b := by show ¬ (G.2.2.2 ≤ b); rw [hGz]; omega
  obtain ⟨ad, F, V, L, nc, nr, t, g, hW, hC, hM, hJ, hF52, rfl, rfl, rfl, ha1, ha2⟩ := hSt.fresh
  have hK := hKK0.1.1
  have hKK := hKK0.keep hS.2.1
  obtain ⟨a0, ea0⟩ : ∃ y, xs (nI i + 1).toNatClampNeg = y := ⟨_, rfl⟩
  obtain ⟨a1, ea1⟩ : ∃ y, xs (nI i + 2).toNatClampNeg = y := ⟨_, rfl⟩
  obtain ⟨a2, ea2⟩ : ∃ y, xs (nI i + 3).toNatClampNeg = y := ⟨_, rfl⟩
  refine lv_aload_n hx hb dL_law_934 rfl (lv_at hl 3 rfl) ?_
  refine lv_aload_n hx hb dL_law_935 rfl (lv_at hl 4 rfl) ?_
  refine lv_iload hx hb dL_law_936 (lv_at hl 0 rfl) ?_
  refine lv_iconst (v := 1) hx hb dL_law_938 (by decide) ?_
  refine lv_iadd hx hb dL_law_939 ?_
  refine ck_sld hx hb hX hbl hbA hS (ck_ixs (k := 1) (by omega) hLn) ea0 dL_law_940 ?_
  refine lv_aload_n hx hb dL_law_941 rfl (lv_at hl 4 rfl) ?_
  refine lv_iload hx hb dL_law_942 (lv_at hl 0 rfl) ?_
  refine lv_iconst (v := 2) hx hb dL_law_944 (by decide) ?_
  refine lv_iadd hx hb dL_law_945 ?_
  refine ck_sld hx hb hX hbl hbA hS (ck_ixs (k := 2) (by omega) hLn) ea1 dL_law_946 ?_
  refine lv_aload_n hx hb dL_law_947 rfl (lv_at hl 4 rfl) ?_
  refine lv_iload hx hb dL_law_948 (lv_at hl 0 rfl) ?_
  refine lv_iconst (v := 3) hx hb dL_law_950 (by decide) ?_
  refine lv_iadd hx hb dL_law_951 ?_
  refine ck_sld hx hb hX hbl hbA hS (ck_ixs (k := 3) (by omega) hLn) ea2 dL_law_952 ?_
  refine lv_aload_n hx hb dL_law_953 rfl (lv_at hl 1 rfl) ?_
  refine ck_cLi (As := [.ref (ad 0), .int a0, .int a1, .int a2, .ref (ad 52)]) (rest := []) ⟨hx, hb, hml, hown, hts⟩ hKK (ct_L_offer l G H ad (ck_Nn nc nr) F hW V L nc nr hC hlt (Or.inr (Or.inl (by decide))) g hF52 a0 a1 a2) (vx_cwSW 5 hts gL_law_L_offer rfl rfl rfl (by decide +kernel) ⟨Nat.le_of_ble_eq_true rfl, Nat.le_of_ble_eq_true rfl⟩) rfl hl rfl (Nat.le_of_ble_eq_true rfl) dL_law_954 ⟨by show cells + 1 ≤ 601024; omega, by show slots + 6 ≤ 7293034; omega⟩ hS (fun kC H locs hP hz hS => ?_)
  obtain ⟨rC, VC, LC, ncC, nrC, N1, F1, g1, hRC, hg1, hF1, hNs, hW, hC1, ho⟩ := hP
  have hM1 : ck_M G ad V L nc nr t N1 F1 := hM.fE ho (fun i h1 h2 => hNs i (Or.inr (Or.inl (by omega))))
  have hKK := hKK0.keep hS.2.1
  refine lv_istore (lv' := [(5, .int kC), (4, .int (nI i)), (3, .ref (ad 52)), (2, .ref (ad 30)), (1, .ref (ad 0)), (0, .ref b)]) hx hb dL_law_957 hl (by decide) rfl (fun ls hl => ?_)
  refine lv_aload_n hx hb dL_law_959 rfl (lv_at hl 3 rfl) ?_
  refine lv_aload_n hx hb dL_law_960 rfl (lv_at hl 5 rfl) ?_
  refine lv_iload hx hb dL_law_961 (lv_at hl 1 rfl) ?_
  refine lv_iconst (v := 1) hx hb dL_law_963 (by decide) ?_
  refine lv_iadd hx hb dL_law_964 ?_
  refine ck_sld hx hb hX hbl hbA hS (ck_ixs (k := 1) (by omega) hLn) ea0 dL_law_965 ?_
  refine lv_aload_n hx hb dL_law_966 rfl (lv_at hl 5 rfl) ?_
  refine lv_iload hx hb dL_law_967 (lv_at hl 1 rfl) ?_
  refine lv_iconst (v := 2) hx hb dL_law_969 (by decide) ?_
  refine lv_iadd hx hb dL_law_970 ?_
  refine ck_sld hx hb hX hbl hbA hS (ck_ixs (k := 2) (by omega) hLn) ea1 dL_law_971 ?_
  refine lv_aload_n hx hb dL_law_972 rfl (lv_at hl 5 rfl) ?_
  refine lv_iload hx hb dL_law_973 (lv_at hl 1 rfl) ?_
  refine lv_iconst (v := 3) hx hb dL_law_975 (by decide) ?_
  refine lv_iadd hx hb dL_law_976 ?_
  refine ck_sld hx hb hX hbl hbA hS (ck_ixs (k := 3) (by omega) hLn) ea2 dL_law_977 ?_
  refine ck_cVw (As := [.int a0, .int a1, .int a2]) (rest := []) ⟨hx, hb, hml, hown, hts⟩ hKK (ct_X5_offer l G H ad N1 F1 hW V L nc nr t hM1 hJ.1 hJ.2.1.oM a0 a1 a2) (cwV 3 hts gL_law_X5_offer rfl rfl rfl (by decide +kernel) ⟨Nat.le_of_ble_eq_true rfl, Nat.le_of_ble_eq_true rfl⟩) (ck_recv hK hW (hM1.n 30 (by decide) (by decide)) hM1.f30 rfl) rfl hl rfl (Nat.le_of_ble_eq_true rfl) dL_law_978 ⟨by show cells + 1 + 0 ≤ 601024; omega, by show slots + 6 + 0 ≤ 7293034; omega⟩ hS (fun rM H locs hP hz hS => ?_)
  have hKK := hKK0.keep hS.2.1
  obtain ⟨t1, VM, F2, hRM, hW, hM2, hsM⟩ := hP
  have hsyn : ck_syn n kC rC VC LC ncC nrC t1 rM VM L nc nr := by obtain ⟨a, rfl, rfl, rfl⟩ := hRC; exact ck_s_off hJ a hRM
  have hNew := ck_S.of hW hC1 hsM hM2 (hNs 52 (Or.inr (Or.inl (by decide)))) hF1 hsyn
  refine lv_istore (lv' := [(6, .int rM), (5, .int kC), (4, .int (nI i)), (3, .ref (ad 52)), (2, .ref (ad 30)), (1, .ref (ad 0)), (0, .ref b)]) hx hb dL_law_981 hl (by decide) rfl (fun ls hl => ?_)
  refine lv_aload_n hx hb dL_law_983 rfl (lv_at hl 4 rfl) ?_
  refine ck_cVi (As := []) (rest := []) ⟨hx, hb, hml, hown, hts⟩ hKK (ct_X5_thrown l G H ad N1 F2 hW VM L nc nr t1 hM2) (cwV 0 hts gL_law_X5_thrown rfl rfl rfl (by decide +kernel) ⟨Nat.le_of_ble_eq_true rfl, Nat.le_of_ble_eq_true rfl⟩) (ck_recv hK hW (hM2.n 30 (by decide) (by decide)) hM2.f30 rfl) rfl hl rfl (Nat.le_of_ble_eq_true rfl) dL_law_984 ⟨by show cells + 1 + 0 + 0 ≤ 601024; omega, by show slots + 6 + 0 + 0 ≤ 7293034; omega⟩ (fun r_t h_t => ?_)
  subst h_t
  refine lv_iload hx hb dL_law_987 (lv_at hl 1 rfl) ?_
  refine lv_icmp_eq (tgt := 994) hx hb dL_law_989 (by decide) (fun _ => ?_) (fun c9 => absurd hsyn.1 c9)
  refine lv_iload hx hb dL_law_994 (lv_at hl 1 rfl) ?_
  refine lv_if_ne (tgt := 1011) hx hb dL_law_996 (by decide) (fun c8 => ?_) (fun c8 => ?_)
  · skip
    refine lv_goto (tgt := 1398) hx hb dL_law_1011 (by decide) ?_
    refine W.widen (k := cells + 2) (n := slots + 14) (by omega) (by omega) ?_
    exact kk H locs ls hS hNew (lv_sub hl [2, 3, 4, 5, 6] rfl)
  · skip
    refine lv_aload_n hx hb dL_law_999 rfl (lv_at hl 3 rfl) ?_
    refine lv_iconst (v := 0) hx hb dL_law_1000 (by decide) ?_
    refine ck_lald hx hb hK hW (hNs 52 (Or.inr (Or.inl (by decide)))) ((hsM 52 (by decide)).trans hF1) 0 (by decide) (by decide) (by decide) dL_law_1001 ?_
    refine lv_iload hx hb dL_law_1002 (lv_at hl 0 rfl) ?_
    refine lv_i2l (v := (rM : Int32).toInt64) hx hb dL_law_1004 rfl ?_
    refine W.lcmp hx hb dL_law_1005 ?_
    refine lv_if_eq (tgt := 1011) hx hb dL_law_1006 (by decide) (fun _ => ?_) (fun c9 => absurd ((ck_cmp1 _ _).mpr (by rw [hg1 c8, hsyn.2.1 c8])) c9)
    refine lv_goto (tgt := 1398) hx hb dL_law_1011 (by decide) ?_
    refine W.widen (k := cells + 2) (n := slots + 14) (by omega) (by omega) ?_
    exact kk H locs ls hS hNew (lv_sub hl [2, 3, 4, 5, 6] rfl)
set_option maxHeartbeats 4000000 in
set_option maxRecDepth 100000 in
theorem cl_offerFor {p : Program} {l : Launch} {e : Env} {s : State} {m : MethodId} {below : List Frame} {meth : Method} {c : Code} {G : ck_G} {b Ln : Nat} {xs : Nat → Int32} (hlt : l.stackTraces = false) (C0 : lw_At p s m meth c b Ln xs) (hKK0 : ck_K G s.heap s) (hGz : G.2.2.2 = s.heap.size) (hLn : Ln ≤ 3584) {i n x0 m0 o0 : Nat} (hi : i + 7 ≤ Ln) (hn : n < 100000) {H : Heap} {locs : List Loc} (hS : va_S (ck_A G) s.heap H locs) (hSt : ck_S G x0 m0 o0 n H) {ls : Array Slot} (hl : lv_has ls 7 [(4, .int (nI i)), (3, .ref o0), (2, .ref m0), (1, .ref x0), (0, .ref b)]) {cells slots : Nat} (hcl : cells + 2 ≤ 601024) (hsl : slots + 14 ≤ 7293034) {Q : State → Prop} (kk : ∀ (H : Heap) (locs : List Loc) (ls : Array Slot), va_S (ck_A G) s.heap H locs → ck_S G x0 m0 o0 (n + 1) H → lv_has ls 7 [(4, .int (nI i)), (3, .ref o0), (2, .ref m0), (1, .ref x0), (0, .ref b)] → W p l e room_1 s m #[.ref b] below meth c H locs (cells + 2) (slots + 14) Q (F0 m 1398 ls [])) : W p l e room_1 s m #[.ref b] below meth c H locs cells slots Q (F0 m 1014 ls []) := by
  obtain ⟨hx, hb, hr, hml, hown, hts0, hX, hbl, hlocks, hgv⟩ := C0
  have hts : ∀ w ∈ wsL_law, w.before #[Value.ref b] s = true := fun w h => hts0 w (wsL_law_in w h)
  have hown : s.vm.findClass RL = some m.cls := hown
  have hbA : ¬ ck_A G b := by show ¬ (G.2.2.2 ≤ b); rw [hGz]; omega
  obtain ⟨ad, F, V, L, nc, nr, t, g, hW, hC, hM, hJ, hF52, rfl, rfl, rfl, ha1, ha2⟩ := hSt.fresh
  have hK := hKK0.1.1
  have hKK := hKK0.keep hS.2.1
  obtain ⟨a0, ea0⟩ : ∃ y, xs (nI i + 1).toNatClampNeg = y := ⟨_, rfl⟩
  obtain ⟨a1, ea1⟩ : ∃ y, xs (nI i + 2).toNatClampNeg = y := ⟨_, rfl⟩
  refine lv_aload_n hx hb dL_law_1014 rfl (lv_at hl 3 rfl) ?_
  refine lv_aload_n hx hb dL_law_1015 rfl (lv_at hl 4 rfl) ?_
  refine lv_iload hx hb dL_law_1016 (lv_at hl 0 rfl) ?_
  refine lv_iconst (v := 1) hx hb dL_law_1018 (by decide) ?_
  refine lv_iadd hx hb dL_law_1019 ?_
  refine ck_sld hx hb hX hbl hbA hS (ck_ixs (k := 1) (by omega) hLn) ea0 dL_law_1020 ?_
  refine lv_aload_n hx hb dL_law_1021 rfl (lv_at hl 4 rfl) ?_
  refine lv_iload hx hb dL_law_1022 (lv_at hl 0 rfl) ?_
  refine lv_iconst (v := 2) hx hb dL_law_1024 (by decide) ?_
  refine lv_iadd hx hb dL_law_1025 ?_
  refine ck_sld hx hb hX hbl hbA hS (ck_ixs (k := 2) (by omega) hLn) ea1 dL_law_1026 ?_
  refine lv_aload_n hx hb dL_law_1027 rfl (lv_at hl 1 rfl) ?_
  refine ck_cLi (As := [.ref (ad 0), .int a0, .int a1, .ref (ad 52)]) (rest := []) ⟨hx, hb, hml, hown, hts⟩ hKK (ct_L_offerFor l G H ad (ck_Nn nc nr) F hW V L nc nr hC hlt (Or.inr (Or.inl (by decide))) g hF52 a0 a1) (vx_cwSW 4 hts gL_law_L_offerFor rfl rfl rfl (by decide +kernel) ⟨Nat.le_of_ble_eq_true rfl, Nat.le_of_ble_eq_true rfl⟩) rfl hl rfl (Nat.le_of_ble_eq_true rfl) dL_law_1028 ⟨by show cells + 1 ≤ 601024; omega, by show slots + 6 ≤ 7293034; omega⟩ hS (fun kC H locs hP hz hS => ?_)
  obtain ⟨rC, VC, LC, ncC, nrC, N1, F1, g1, hRC, hg1, hF1, hNs, hW, hC1, ho⟩ := hP
  have hM1 : ck_M G ad V L nc nr t N1 F1 := hM.fE ho (fun i h1 h2 => hNs i (Or.inr (Or.inl (by omega))))
  have hKK := hKK0.keep hS.2.1
  refine lv_istore (lv' := [(5, .int kC), (4, .int (nI i)), (3, .ref (ad 52)), (2, .ref (ad 30)), (1, .ref (ad 0)), (0, .ref b)]) hx hb dL_law_1031 hl (by decide) rfl (fun ls hl => ?_)
  refine lv_aload_n hx hb dL_law_1033 rfl (lv_at hl 3 rfl) ?_
  refine lv_aload_n hx hb dL_law_1034 rfl (lv_at hl 5 rfl) ?_
  refine lv_iload hx hb dL_law_1035 (lv_at hl 1 rfl) ?_
  refine lv_iconst (v := 1) hx hb dL_law_1037 (by decide) ?_
  refine lv_iadd hx hb dL_law_1038 ?_
  refine ck_sld hx hb hX hbl hbA hS (ck_ixs (k := 1) (by omega) hLn) ea0 dL_law_1039 ?_
  refine lv_aload_n hx hb dL_law_1040 rfl (lv_at hl 5 rfl) ?_
  refine lv_iload hx hb dL_law_1041 (lv_at hl 1 rfl) ?_
  refine lv_iconst (v := 2) hx hb dL_law_1043 (by decide) ?_
  refine lv_iadd hx hb dL_law_1044 ?_
  refine ck_sld hx hb hX hbl hbA hS (ck_ixs (k := 2) (by omega) hLn) ea1 dL_law_1045 ?_
  refine ck_cVw (As := [.int a0, .int a1]) (rest := []) ⟨hx, hb, hml, hown, hts⟩ hKK (ct_X5_offerFor l G H ad N1 F1 hW V L nc nr t hM1 hJ.1 hJ.2.1.oM a0 a1) (cwV 2 hts gL_law_X5_offerFor rfl rfl rfl (by decide +kernel) ⟨Nat.le_of_ble_eq_true rfl, Nat.le_of_ble_eq_true rfl⟩) (ck_recv hK hW (hM1.n 30 (by decide) (by decide)) hM1.f30 rfl) rfl hl rfl (Nat.le_of_ble_eq_true rfl) dL_law_1046 ⟨by show cells + 1 + 0 ≤ 601024; omega, by show slots + 6 + 0 ≤ 7293034; omega⟩ hS (fun rM H locs hP hz hS => ?_)
  have hKK := hKK0.keep hS.2.1
  obtain ⟨t1, F2, hRM, hW, hM2, hsM⟩ := hP
  have hsyn : ck_syn n kC rC VC LC ncC nrC t1 rM V L nc nr := ck_sy_ro (RC := fun k r => ck_RoffF (fun i => ck_pr V a1 i) a0 a1 k r) (RM := fun k r => ck_RoffF (ck_mo V a1) a0 a1 k r) hJ (fun _ _ _ _ a b => ck_u_offF (hJ.2.1.pr a1) a b) hRC ⟨hRM, rfl, rfl, rfl, rfl⟩
  have hNew := ck_S.of hW hC1 hsM hM2 (hNs 52 (Or.inr (Or.inl (by decide)))) hF1 hsyn
  refine lv_istore (lv' := [(6, .int rM), (5, .int kC), (4, .int (nI i)), (3, .ref (ad 52)), (2, .ref (ad 30)), (1, .ref (ad 0)), (0, .ref b)]) hx hb dL_law_1049 hl (by decide) rfl (fun ls hl => ?_)
  refine lv_aload_n hx hb dL_law_1051 rfl (lv_at hl 4 rfl) ?_
  refine ck_cVi (As := []) (rest := []) ⟨hx, hb, hml, hown, hts⟩ hKK (ct_X5_thrown l G H ad N1 F2 hW V L nc nr t1 hM2) (cwV 0 hts gL_law_X5_thrown rfl rfl rfl (by decide +kernel) ⟨Nat.le_of_ble_eq_true rfl, Nat.le_of_ble_eq_true rfl⟩) (ck_recv hK hW (hM2.n 30 (by decide) (by decide)) hM2.f30 rfl) rfl hl rfl (Nat.le_of_ble_eq_true rfl) dL_law_1052 ⟨by show cells + 1 + 0 + 0 ≤ 601024; omega, by show slots + 6 + 0 + 0 ≤ 7293034; omega⟩ (fun r_t h_t => ?_)
  subst h_t
  refine lv_iload hx hb dL_law_1055 (lv_at hl 1 rfl) ?_
  refine lv_icmp_eq (tgt := 1062) hx hb dL_law_1057 (by decide) (fun _ => ?_) (fun c9 => absurd hsyn.1 c9)
  refine lv_iload hx hb dL_law_1062 (lv_at hl 1 rfl) ?_
  refine lv_if_ne (tgt := 1079) hx hb dL_law_1064 (by decide) (fun c8 => ?_) (fun c8 => ?_)
  · skip
    refine lv_goto (tgt := 1398) hx hb dL_law_1079 (by decide) ?_
    refine W.widen (k := cells + 2) (n := slots + 14) (by omega) (by omega) ?_
    exact kk H locs ls hS hNew (lv_sub hl [2, 3, 4, 5, 6] rfl)
  · skip
    refine lv_aload_n hx hb dL_law_1067 rfl (lv_at hl 3 rfl) ?_
    refine lv_iconst (v := 0) hx hb dL_law_1068 (by decide) ?_
    refine ck_lald hx hb hK hW (hNs 52 (Or.inr (Or.inl (by decide)))) ((hsM 52 (by decide)).trans hF1) 0 (by decide) (by decide) (by decide) dL_law_1069 ?_
    refine lv_iload hx hb dL_law_1070 (lv_at hl 0 rfl) ?_
    refine lv_i2l (v := (rM : Int32).toInt64) hx hb dL_law_1072 rfl ?_
    refine W.lcmp hx hb dL_law_1073 ?_
    refine lv_if_eq (tgt := 1079) hx hb dL_law_1074 (by decide) (fun _ => ?_) (fun c9 => absurd ((ck_cmp1 _ _).mpr (by rw [hg1 c8, hsyn.2.1 c8])) c9)
    refine lv_goto (tgt := 1398) hx hb dL_law_1079 (by decide) ?_
    refine W.widen (k := cells + 2) (n := slots + 14) (by omega) (by omega) ?_
    exact kk H locs ls hS hNew (lv_sub hl [2, 3, 4, 5, 6] rfl)
set_option maxHeartbeats 4000000 in
set_option maxRecDepth 100000 in
theorem cl_route {p : Program} {l : Launch} {e : Env} {s : State} {m : MethodId} {below : List Frame} {meth : Method} {c : Code} {G : ck_G} {b Ln : Nat} {xs : Nat → Int32} (hlt : l.stackTraces = false) (C0 : lw_At p s m meth c b Ln xs) (hKK0 : ck_K G s.heap s) (hGz : G.2.2.2 = s.heap.size) (hLn : Ln ≤ 3584) {i n x0 m0 o0 : Nat} (hi : i + 7 ≤ Ln) (hn : n < 100000) {H : Heap} {locs : List Loc} (hS : va_S (ck_A G) s.heap H locs) (hSt : ck_S G x0 m0 o0 n H) {ls : Array Slot} (hl : lv_has ls 7 [(4, .int (nI i)), (3, .ref o0), (2, .ref m0), (1, .ref x0), (0, .ref b)]) {cells slots : Nat} (hcl : cells + 2 ≤ 601024) (hsl : slots + 14 ≤ 7293034) {Q : State → Prop} (kk : ∀ (H : Heap) (locs : List Loc) (ls : Array Slot), va_S (ck_A G) s.heap H locs → ck_S G x0 m0 o0 (n + 1) H → lv_has ls 7 [(4, .int (nI i)), (3, .ref o0), (2, .ref m0), (1, .ref x0), (0, .ref b)] → W p l e room_1 s m #[.ref b] below meth c H locs (cells + 2) (slots + 14) Q (F0 m 1398 ls [])) : W p l e room_1 s m #[.ref b] below meth c H locs cells slots Q (F0 m 1082 ls []) := by
  obtain ⟨hx, hb, hr, hml, hown, hts0, hX, hbl, hlocks, hgv⟩ := C0
  have hts : ∀ w ∈ wsL_law, w.before #[Value.ref b] s = true := fun w h => hts0 w (wsL_law_in w h)
  have hown : s.vm.findClass RL = some m.cls := hown
  have hbA : ¬ ck_A G b := by show ¬ (G.2.2.2 ≤ b); rw [hGz]; omega
  obtain ⟨ad, F, V, L, nc, nr, t, g, hW, hC, hM, hJ, hF52, rfl, rfl, rfl, ha1, ha2⟩ := hSt.fresh
  have hK := hKK0.1.1
  have hKK := hKK0.keep hS.2.1
  obtain ⟨a0, ea0⟩ : ∃ y, xs (nI i + 1).toNatClampNeg = y := ⟨_, rfl⟩
  obtain ⟨a1, ea1⟩ : ∃ y, xs (nI i + 2).toNatClampNeg = y := ⟨_, rfl⟩
  obtain ⟨a2, ea2⟩ : ∃ y, xs (nI i + 3).toNatClampNeg = y := ⟨_, rfl⟩
  obtain ⟨a3, ea3⟩ : ∃ y, xs (nI i + 4).toNatClampNeg = y := ⟨_, rfl⟩
  refine lv_aload_n hx hb dL_law_1082 rfl (lv_at hl 3 rfl) ?_
  refine lv_aload_n hx hb dL_law_1083 rfl (lv_at hl 4 rfl) ?_
  refine lv_iload hx hb dL_law_1084 (lv_at hl 0 rfl) ?_
  refine lv_iconst (v := 1) hx hb dL_law_1086 (by decide) ?_
  refine lv_iadd hx hb dL_law_1087 ?_
  refine ck_sld hx hb hX hbl hbA hS (ck_ixs (k := 1) (by omega) hLn) ea0 dL_law_1088 ?_
  refine lv_aload_n hx hb dL_law_1089 rfl (lv_at hl 4 rfl) ?_
  refine lv_iload hx hb dL_law_1090 (lv_at hl 0 rfl) ?_
  refine lv_iconst (v := 2) hx hb dL_law_1092 (by decide) ?_
  refine lv_iadd hx hb dL_law_1093 ?_
  refine ck_sld hx hb hX hbl hbA hS (ck_ixs (k := 2) (by omega) hLn) ea1 dL_law_1094 ?_
  refine lv_aload_n hx hb dL_law_1095 rfl (lv_at hl 4 rfl) ?_
  refine lv_iload hx hb dL_law_1096 (lv_at hl 0 rfl) ?_
  refine lv_iconst (v := 3) hx hb dL_law_1098 (by decide) ?_
  refine lv_iadd hx hb dL_law_1099 ?_
  refine ck_sld hx hb hX hbl hbA hS (ck_ixs (k := 3) (by omega) hLn) ea2 dL_law_1100 ?_
  refine lv_aload_n hx hb dL_law_1101 rfl (lv_at hl 4 rfl) ?_
  refine lv_iload hx hb dL_law_1102 (lv_at hl 0 rfl) ?_
  refine lv_iconst (v := 4) hx hb dL_law_1104 (by decide) ?_
  refine lv_iadd hx hb dL_law_1105 ?_
  refine ck_sld hx hb hX hbl hbA hS (ck_ixs (k := 4) (by omega) hLn) ea3 dL_law_1106 ?_
  refine lv_aload_n hx hb dL_law_1107 rfl (lv_at hl 1 rfl) ?_
  refine ck_cLi (As := [.ref (ad 0), .int a0, .int a1, .int a2, .int a3, .ref (ad 52)]) (rest := []) ⟨hx, hb, hml, hown, hts⟩ hKK (ct_L_route l G H ad (ck_Nn nc nr) F hW V L nc nr hC hlt (Or.inr (Or.inl (by decide))) g hF52 a0 a1 a2 a3) (vx_cwSW 6 hts gL_law_L_route rfl rfl rfl (by decide +kernel) ⟨Nat.le_of_ble_eq_true rfl, Nat.le_of_ble_eq_true rfl⟩) rfl hl rfl (Nat.le_of_ble_eq_true rfl) dL_law_1108 ⟨by show cells + 1 ≤ 601024; omega, by show slots + 6 ≤ 7293034; omega⟩ hS (fun kC H locs hP hz hS => ?_)
  obtain ⟨rC, VC, LC, ncC, nrC, N1, F1, g1, hRC, hg1, hF1, hNs, hW, hC1, ho⟩ := hP
  have hM1 : ck_M G ad V L nc nr t N1 F1 := hM.fE ho (fun i h1 h2 => hNs i (Or.inr (Or.inl (by omega))))
  have hKK := hKK0.keep hS.2.1
  refine lv_istore (lv' := [(5, .int kC), (4, .int (nI i)), (3, .ref (ad 52)), (2, .ref (ad 30)), (1, .ref (ad 0)), (0, .ref b)]) hx hb dL_law_1111 hl (by decide) rfl (fun ls hl => ?_)
  refine lv_aload_n hx hb dL_law_1113 rfl (lv_at hl 3 rfl) ?_
  refine lv_aload_n hx hb dL_law_1114 rfl (lv_at hl 5 rfl) ?_
  refine lv_iload hx hb dL_law_1115 (lv_at hl 1 rfl) ?_
  refine lv_iconst (v := 1) hx hb dL_law_1117 (by decide) ?_
  refine lv_iadd hx hb dL_law_1118 ?_
  refine ck_sld hx hb hX hbl hbA hS (ck_ixs (k := 1) (by omega) hLn) ea0 dL_law_1119 ?_
  refine lv_aload_n hx hb dL_law_1120 rfl (lv_at hl 5 rfl) ?_
  refine lv_iload hx hb dL_law_1121 (lv_at hl 1 rfl) ?_
  refine lv_iconst (v := 2) hx hb dL_law_1123 (by decide) ?_
  refine lv_iadd hx hb dL_law_1124 ?_
  refine ck_sld hx hb hX hbl hbA hS (ck_ixs (k := 2) (by omega) hLn) ea1 dL_law_1125 ?_
  refine lv_aload_n hx hb dL_law_1126 rfl (lv_at hl 5 rfl) ?_
  refine lv_iload hx hb dL_law_1127 (lv_at hl 1 rfl) ?_
  refine lv_iconst (v := 3) hx hb dL_law_1129 (by decide) ?_
  refine lv_iadd hx hb dL_law_1130 ?_
  refine ck_sld hx hb hX hbl hbA hS (ck_ixs (k := 3) (by omega) hLn) ea2 dL_law_1131 ?_
  refine lv_aload_n hx hb dL_law_1132 rfl (lv_at hl 5 rfl) ?_
  refine lv_iload hx hb dL_law_1133 (lv_at hl 1 rfl) ?_
  refine lv_iconst (v := 4) hx hb dL_law_1135 (by decide) ?_
  refine lv_iadd hx hb dL_law_1136 ?_
  refine ck_sld hx hb hX hbl hbA hS (ck_ixs (k := 4) (by omega) hLn) ea3 dL_law_1137 ?_
  refine ck_cVw (As := [.int a0, .int a1, .int a2, .int a3]) (rest := []) ⟨hx, hb, hml, hown, hts⟩ hKK (ct_X5_route l G H ad N1 F1 hW V L nc nr t hM1 hJ.1 hJ.2.1.oM a0 a1 a2 a3) (cwV 4 hts gL_law_X5_route rfl rfl rfl (by decide +kernel) ⟨Nat.le_of_ble_eq_true rfl, Nat.le_of_ble_eq_true rfl⟩) (ck_recv hK hW (hM1.n 30 (by decide) (by decide)) hM1.f30 rfl) rfl hl rfl (Nat.le_of_ble_eq_true rfl) dL_law_1138 ⟨by show cells + 1 + 0 ≤ 601024; omega, by show slots + 6 + 0 ≤ 7293034; omega⟩ hS (fun rM H locs hP hz hS => ?_)
  have hKK := hKK0.keep hS.2.1
  obtain ⟨t1, F2, hRM, hW, hM2, hsM⟩ := hP
  have hsyn : ck_syn n kC rC VC LC ncC nrC t1 rM V L nc nr := ck_sy_ro (RC := fun k r => ck_Rroute V nr (fun z => ck_rk (ck_pr V a0) z a3 0 4) a0 a1 a2 a3 k r) (RM := fun k r => ck_Rroute V nr (fun lim => ck_fd (ck_mo V a0) lim a3 4) a0 a1 a2 a3 k r) hJ (fun _ _ _ _ a b => ck_u_route hJ.2.1 a b) hRC ⟨hRM, rfl, rfl, rfl, rfl⟩
  have hNew := ck_S.of hW hC1 hsM hM2 (hNs 52 (Or.inr (Or.inl (by decide)))) hF1 hsyn
  refine lv_istore (lv' := [(6, .int rM), (5, .int kC), (4, .int (nI i)), (3, .ref (ad 52)), (2, .ref (ad 30)), (1, .ref (ad 0)), (0, .ref b)]) hx hb dL_law_1141 hl (by decide) rfl (fun ls hl => ?_)
  refine lv_aload_n hx hb dL_law_1143 rfl (lv_at hl 4 rfl) ?_
  refine ck_cVi (As := []) (rest := []) ⟨hx, hb, hml, hown, hts⟩ hKK (ct_X5_thrown l G H ad N1 F2 hW V L nc nr t1 hM2) (cwV 0 hts gL_law_X5_thrown rfl rfl rfl (by decide +kernel) ⟨Nat.le_of_ble_eq_true rfl, Nat.le_of_ble_eq_true rfl⟩) (ck_recv hK hW (hM2.n 30 (by decide) (by decide)) hM2.f30 rfl) rfl hl rfl (Nat.le_of_ble_eq_true rfl) dL_law_1144 ⟨by show cells + 1 + 0 + 0 ≤ 601024; omega, by show slots + 6 + 0 + 0 ≤ 7293034; omega⟩ (fun r_t h_t => ?_)
  subst h_t
  refine lv_iload hx hb dL_law_1147 (lv_at hl 1 rfl) ?_
  refine lv_icmp_eq (tgt := 1154) hx hb dL_law_1149 (by decide) (fun _ => ?_) (fun c9 => absurd hsyn.1 c9)
  refine lv_iload hx hb dL_law_1154 (lv_at hl 1 rfl) ?_
  refine lv_if_ne (tgt := 1171) hx hb dL_law_1156 (by decide) (fun c8 => ?_) (fun c8 => ?_)
  · skip
    refine lv_goto (tgt := 1398) hx hb dL_law_1171 (by decide) ?_
    refine W.widen (k := cells + 2) (n := slots + 14) (by omega) (by omega) ?_
    exact kk H locs ls hS hNew (lv_sub hl [2, 3, 4, 5, 6] rfl)
  · skip
    refine lv_aload_n hx hb dL_law_1159 rfl (lv_at hl 3 rfl) ?_
    refine lv_iconst (v := 0) hx hb dL_law_1160 (by decide) ?_
    refine ck_lald hx hb hK hW (hNs 52 (Or.inr (Or.inl (by decide)))) ((hsM 52 (by decide)).trans hF1) 0 (by decide) (by decide) (by decide) dL_law_1161 ?_
    refine lv_iload hx hb dL_law_1162 (lv_at hl 0 rfl) ?_
    refine lv_i2l (v := (rM : Int32).toInt64) hx hb dL_law_1164 rfl ?_
    refine W.lcmp hx hb dL_law_1165 ?_
    refine lv_if_eq (tgt := 1171) hx hb dL_law_1166 (by decide) (fun _ => ?_) (fun c9 => absurd ((ck_cmp1 _ _).mpr (by rw [hg1 c8, hsyn.2.1 c8])) c9)
    refine lv_goto (tgt := 1398) hx hb dL_law_1171 (by decide) ?_
    refine W.widen (k := cells + 2) (n := slots + 14) (by omega) (by omega) ?_
    exact kk H locs ls hS hNew (lv_sub hl [2, 3, 4, 5, 6] rfl)
set_option maxHeartbeats 4000000 in
set_option maxRecDepth 100000 in
theorem cl_claim {p : Program} {l : Launch} {e : Env} {s : State} {m : MethodId} {below : List Frame} {meth : Method} {c : Code} {G : ck_G} {b Ln : Nat} {xs : Nat → Int32} (hlt : l.stackTraces = false) (C0 : lw_At p s m meth c b Ln xs) (hKK0 : ck_K G s.heap s) (hGz : G.2.2.2 = s.heap.size) (hLn : Ln ≤ 3584) {i n x0 m0 o0 : Nat} (hi : i + 7 ≤ Ln) (hn : n < 100000) {H : Heap} {locs : List Loc} (hS : va_S (ck_A G) s.heap H locs) (hSt : ck_S G x0 m0 o0 n H) {ls : Array Slot} (hl : lv_has ls 7 [(4, .int (nI i)), (3, .ref o0), (2, .ref m0), (1, .ref x0), (0, .ref b)]) {cells slots : Nat} (hcl : cells + 2 ≤ 601024) (hsl : slots + 14 ≤ 7293034) {Q : State → Prop} (kk : ∀ (H : Heap) (locs : List Loc) (ls : Array Slot), va_S (ck_A G) s.heap H locs → ck_S G x0 m0 o0 (n + 1) H → lv_has ls 7 [(4, .int (nI i)), (3, .ref o0), (2, .ref m0), (1, .ref x0), (0, .ref b)] → W p l e room_1 s m #[.ref b] below meth c H locs (cells + 2) (slots + 14) Q (F0 m 1398 ls [])) : W p l e room_1 s m #[.ref b] below meth c H locs cells slots Q (F0 m 1174 ls []) := by
  obtain ⟨hx, hb, hr, hml, hown, hts0, hX, hbl, hlocks, hgv⟩ := C0
  have hts : ∀ w ∈ wsL_law, w.before #[Value.ref b] s = true := fun w h => hts0 w (wsL_law_in w h)
  have hown : s.vm.findClass RL = some m.cls := hown
  have hbA : ¬ ck_A G b := by show ¬ (G.2.2.2 ≤ b); rw [hGz]; omega
  obtain ⟨ad, F, V, L, nc, nr, t, g, hW, hC, hM, hJ, hF52, rfl, rfl, rfl, ha1, ha2⟩ := hSt.fresh
  have hK := hKK0.1.1
  have hKK := hKK0.keep hS.2.1
  obtain ⟨a0, ea0⟩ : ∃ y, xs (nI i + 1).toNatClampNeg = y := ⟨_, rfl⟩
  obtain ⟨a1, ea1⟩ : ∃ y, xs (nI i + 2).toNatClampNeg = y := ⟨_, rfl⟩
  refine lv_aload_n hx hb dL_law_1174 rfl (lv_at hl 3 rfl) ?_
  refine lv_aload_n hx hb dL_law_1175 rfl (lv_at hl 4 rfl) ?_
  refine lv_iload hx hb dL_law_1176 (lv_at hl 0 rfl) ?_
  refine lv_iconst (v := 1) hx hb dL_law_1178 (by decide) ?_
  refine lv_iadd hx hb dL_law_1179 ?_
  refine ck_sld hx hb hX hbl hbA hS (ck_ixs (k := 1) (by omega) hLn) ea0 dL_law_1180 ?_
  refine lv_aload_n hx hb dL_law_1181 rfl (lv_at hl 4 rfl) ?_
  refine lv_iload hx hb dL_law_1182 (lv_at hl 0 rfl) ?_
  refine lv_iconst (v := 2) hx hb dL_law_1184 (by decide) ?_
  refine lv_iadd hx hb dL_law_1185 ?_
  refine ck_sld hx hb hX hbl hbA hS (ck_ixs (k := 2) (by omega) hLn) ea1 dL_law_1186 ?_
  refine lv_aload_n hx hb dL_law_1187 rfl (lv_at hl 1 rfl) ?_
  refine ck_cLi (As := [.ref (ad 0), .int a0, .int a1, .ref (ad 52)]) (rest := []) ⟨hx, hb, hml, hown, hts⟩ hKK (ct_L_claim l G H ad (ck_Nn nc nr) F hW V L nc nr hC hlt (Or.inr (Or.inl (by decide))) g hF52 a0 a1) (vx_cwSW 4 hts gL_law_L_claim rfl rfl rfl (by decide +kernel) ⟨Nat.le_of_ble_eq_true rfl, Nat.le_of_ble_eq_true rfl⟩) rfl hl rfl (Nat.le_of_ble_eq_true rfl) dL_law_1188 ⟨by show cells + 1 ≤ 601024; omega, by show slots + 6 ≤ 7293034; omega⟩ hS (fun kC H locs hP hz hS => ?_)
  obtain ⟨rC, VC, LC, ncC, nrC, N1, F1, g1, hRC, hg1, hF1, hNs, hW, hC1, ho⟩ := hP
  have hM1 : ck_M G ad V L nc nr t N1 F1 := hM.fE ho (fun i h1 h2 => hNs i (Or.inr (Or.inl (by omega))))
  have hKK := hKK0.keep hS.2.1
  refine lv_istore (lv' := [(5, .int kC), (4, .int (nI i)), (3, .ref (ad 52)), (2, .ref (ad 30)), (1, .ref (ad 0)), (0, .ref b)]) hx hb dL_law_1191 hl (by decide) rfl (fun ls hl => ?_)
  refine lv_aload_n hx hb dL_law_1193 rfl (lv_at hl 3 rfl) ?_
  refine lv_aload_n hx hb dL_law_1194 rfl (lv_at hl 5 rfl) ?_
  refine lv_iload hx hb dL_law_1195 (lv_at hl 1 rfl) ?_
  refine lv_iconst (v := 1) hx hb dL_law_1197 (by decide) ?_
  refine lv_iadd hx hb dL_law_1198 ?_
  refine ck_sld hx hb hX hbl hbA hS (ck_ixs (k := 1) (by omega) hLn) ea0 dL_law_1199 ?_
  refine lv_aload_n hx hb dL_law_1200 rfl (lv_at hl 5 rfl) ?_
  refine lv_iload hx hb dL_law_1201 (lv_at hl 1 rfl) ?_
  refine lv_iconst (v := 2) hx hb dL_law_1203 (by decide) ?_
  refine lv_iadd hx hb dL_law_1204 ?_
  refine ck_sld hx hb hX hbl hbA hS (ck_ixs (k := 2) (by omega) hLn) ea1 dL_law_1205 ?_
  refine ck_cVw (As := [.int a0, .int a1]) (rest := []) ⟨hx, hb, hml, hown, hts⟩ hKK (ct_X5_claim l G H ad N1 F1 hW V L nc nr t hM1 hJ.1 a0 a1) (cwV 2 hts gL_law_X5_claim rfl rfl rfl (by decide +kernel) ⟨Nat.le_of_ble_eq_true rfl, Nat.le_of_ble_eq_true rfl⟩) (ck_recv hK hW (hM1.n 30 (by decide) (by decide)) hM1.f30 rfl) rfl hl rfl (Nat.le_of_ble_eq_true rfl) dL_law_1206 ⟨by show cells + 1 + 0 ≤ 601024; omega, by show slots + 6 + 0 ≤ 7293034; omega⟩ hS (fun rM H locs hP hz hS => ?_)
  have hKK := hKK0.keep hS.2.1
  obtain ⟨t1, VM, F2, hRM, hW, hM2, hsM⟩ := hP
  have hsyn : ck_syn n kC rC VC LC ncC nrC t1 rM VM L nc nr := ck_sy_wr (RC := fun k r V1 => ck_Rclaim V nc a0 a1 k r V1) (RM := fun k r V1 => ck_Rclaim V nc a0 a1 k r V1) (fun _ _ _ _ _ _ a b => ck_s_claim hC.nc hJ a b) hRC ⟨hRM, rfl, rfl, rfl⟩
  have hNew := ck_S.of hW hC1 hsM hM2 (hNs 52 (Or.inr (Or.inl (by decide)))) hF1 hsyn
  refine lv_istore (lv' := [(6, .int rM), (5, .int kC), (4, .int (nI i)), (3, .ref (ad 52)), (2, .ref (ad 30)), (1, .ref (ad 0)), (0, .ref b)]) hx hb dL_law_1209 hl (by decide) rfl (fun ls hl => ?_)
  refine lv_aload_n hx hb dL_law_1211 rfl (lv_at hl 4 rfl) ?_
  refine ck_cVi (As := []) (rest := []) ⟨hx, hb, hml, hown, hts⟩ hKK (ct_X5_thrown l G H ad N1 F2 hW VM L nc nr t1 hM2) (cwV 0 hts gL_law_X5_thrown rfl rfl rfl (by decide +kernel) ⟨Nat.le_of_ble_eq_true rfl, Nat.le_of_ble_eq_true rfl⟩) (ck_recv hK hW (hM2.n 30 (by decide) (by decide)) hM2.f30 rfl) rfl hl rfl (Nat.le_of_ble_eq_true rfl) dL_law_1212 ⟨by show cells + 1 + 0 + 0 ≤ 601024; omega, by show slots + 6 + 0 + 0 ≤ 7293034; omega⟩ (fun r_t h_t => ?_)
  subst h_t
  refine lv_iload hx hb dL_law_1215 (lv_at hl 1 rfl) ?_
  refine lv_icmp_eq (tgt := 1222) hx hb dL_law_1217 (by decide) (fun _ => ?_) (fun c9 => absurd hsyn.1 c9)
  refine lv_iload hx hb dL_law_1222 (lv_at hl 1 rfl) ?_
  refine lv_if_ne (tgt := 1239) hx hb dL_law_1224 (by decide) (fun c8 => ?_) (fun c8 => ?_)
  · skip
    refine lv_goto (tgt := 1398) hx hb dL_law_1239 (by decide) ?_
    refine W.widen (k := cells + 2) (n := slots + 14) (by omega) (by omega) ?_
    exact kk H locs ls hS hNew (lv_sub hl [2, 3, 4, 5, 6] rfl)
  · skip
    refine lv_aload_n hx hb dL_law_1227 rfl (lv_at hl 3 rfl) ?_
    refine lv_iconst (v := 0) hx hb dL_law_1228 (by decide) ?_
    refine ck_lald hx hb hK hW (hNs 52 (Or.inr (Or.inl (by decide)))) ((hsM 52 (by decide)).trans hF1) 0 (by decide) (by decide) (by decide) dL_law_1229 ?_
    refine lv_iload hx hb dL_law_1230 (lv_at hl 0 rfl) ?_
    refine lv_i2l (v := (rM : Int32).toInt64) hx hb dL_law_1232 rfl ?_
    refine W.lcmp hx hb dL_law_1233 ?_
    refine lv_if_eq (tgt := 1239) hx hb dL_law_1234 (by decide) (fun _ => ?_) (fun c9 => absurd ((ck_cmp1 _ _).mpr (by rw [hg1 c8, hsyn.2.1 c8])) c9)
    refine lv_goto (tgt := 1398) hx hb dL_law_1239 (by decide) ?_
    refine W.widen (k := cells + 2) (n := slots + 14) (by omega) (by omega) ?_
    exact kk H locs ls hS hNew (lv_sub hl [2, 3, 4, 5, 6] rfl)
set_option maxHeartbeats 4000000 in
set_option maxRecDepth 100000 in
theorem cl_difference {p : Program} {l : Launch} {e : Env} {s : State} {m : MethodId} {below : List Frame} {meth : Method} {c : Code} {G : ck_G} {b Ln : Nat} {xs : Nat → Int32} (hlt : l.stackTraces = false) (C0 : lw_At p s m meth c b Ln xs) (hKK0 : ck_K G s.heap s) (hGz : G.2.2.2 = s.heap.size) (hLn : Ln ≤ 3584) {i n x0 m0 o0 : Nat} (hi : i + 7 ≤ Ln) (hn : n < 100000) {H : Heap} {locs : List Loc} (hS : va_S (ck_A G) s.heap H locs) (hSt : ck_S G x0 m0 o0 n H) {ls : Array Slot} (hl : lv_has ls 7 [(4, .int (nI i)), (3, .ref o0), (2, .ref m0), (1, .ref x0), (0, .ref b)]) {cells slots : Nat} (hcl : cells + 2 ≤ 601024) (hsl : slots + 14 ≤ 7293034) {Q : State → Prop} (kk : ∀ (H : Heap) (locs : List Loc) (ls : Array Slot), va_S (ck_A G) s.heap H locs → ck_S G x0 m0 o0 (n + 1) H → lv_has ls 7 [(4, .int (nI i)), (3, .ref o0), (2, .ref m0), (1, .ref x0), (0, .ref b)] → W p l e room_1 s m #[.ref b] below meth c H locs (cells + 2) (slots + 14) Q (F0 m 1398 ls [])) : W p l e room_1 s m #[.ref b] below meth c H locs cells slots Q (F0 m 1242 ls []) := by
  obtain ⟨hx, hb, hr, hml, hown, hts0, hX, hbl, hlocks, hgv⟩ := C0
  have hts : ∀ w ∈ wsL_law, w.before #[Value.ref b] s = true := fun w h => hts0 w (wsL_law_in w h)
  have hown : s.vm.findClass RL = some m.cls := hown
  have hbA : ¬ ck_A G b := by show ¬ (G.2.2.2 ≤ b); rw [hGz]; omega
  obtain ⟨ad, F, V, L, nc, nr, t, g, hW, hC, hM, hJ, hF52, rfl, rfl, rfl, ha1, ha2⟩ := hSt.fresh
  have hK := hKK0.1.1
  have hKK := hKK0.keep hS.2.1
  obtain ⟨a0, ea0⟩ : ∃ y, xs (nI i + 1).toNatClampNeg = y := ⟨_, rfl⟩
  refine lv_aload_n hx hb dL_law_1242 rfl (lv_at hl 3 rfl) ?_
  refine lv_aload_n hx hb dL_law_1243 rfl (lv_at hl 4 rfl) ?_
  refine lv_iload hx hb dL_law_1244 (lv_at hl 0 rfl) ?_
  refine lv_iconst (v := 1) hx hb dL_law_1246 (by decide) ?_
  refine lv_iadd hx hb dL_law_1247 ?_
  refine ck_sld hx hb hX hbl hbA hS (ck_ixs (k := 1) (by omega) hLn) ea0 dL_law_1248 ?_
  refine lv_aload_n hx hb dL_law_1249 rfl (lv_at hl 1 rfl) ?_
  refine ck_cLi (As := [.ref (ad 0), .int a0, .ref (ad 52)]) (rest := []) ⟨hx, hb, hml, hown, hts⟩ hKK (ct_L_difference l G H ad (ck_Nn nc nr) F hW V L nc nr hC hlt (Or.inr (Or.inl (by decide))) g hF52 a0) (vx_cwSW 3 hts gL_law_L_difference rfl rfl rfl (by decide +kernel) ⟨Nat.le_of_ble_eq_true rfl, Nat.le_of_ble_eq_true rfl⟩) rfl hl rfl (Nat.le_of_ble_eq_true rfl) dL_law_1250 ⟨by show cells + 1 ≤ 601024; omega, by show slots + 6 ≤ 7293034; omega⟩ hS (fun kC H locs hP hz hS => ?_)
  obtain ⟨rC, VC, LC, ncC, nrC, N1, F1, g1, hRC, hg1, hF1, hNs, hW, hC1, ho⟩ := hP
  have hM1 : ck_M G ad V L nc nr t N1 F1 := hM.fE ho (fun i h1 h2 => hNs i (Or.inr (Or.inl (by omega))))
  have hKK := hKK0.keep hS.2.1
  refine lv_istore (lv' := [(5, .int kC), (4, .int (nI i)), (3, .ref (ad 52)), (2, .ref (ad 30)), (1, .ref (ad 0)), (0, .ref b)]) hx hb dL_law_1253 hl (by decide) rfl (fun ls hl => ?_)
  refine lv_aload_n hx hb dL_law_1255 rfl (lv_at hl 3 rfl) ?_
  refine lv_aload_n hx hb dL_law_1256 rfl (lv_at hl 5 rfl) ?_
  refine lv_iload hx hb dL_law_1257 (lv_at hl 1 rfl) ?_
  refine lv_iconst (v := 1) hx hb dL_law_1259 (by decide) ?_
  refine lv_iadd hx hb dL_law_1260 ?_
  refine ck_sld hx hb hX hbl hbA hS (ck_ixs (k := 1) (by omega) hLn) ea0 dL_law_1261 ?_
  refine ck_cVw (As := [.int a0]) (rest := []) ⟨hx, hb, hml, hown, hts⟩ hKK (ct_X5_difference l G H ad N1 F1 hW V L nc nr t hM1 hJ.1 a0) (cwV 1 hts gL_law_X5_difference rfl rfl rfl (by decide +kernel) ⟨Nat.le_of_ble_eq_true rfl, Nat.le_of_ble_eq_true rfl⟩) (ck_recv hK hW (hM1.n 30 (by decide) (by decide)) hM1.f30 rfl) rfl hl rfl (Nat.le_of_ble_eq_true rfl) dL_law_1262 ⟨by show cells + 1 + 0 ≤ 601024; omega, by show slots + 6 + 0 ≤ 7293034; omega⟩ hS (fun rM H locs hP hz hS => ?_)
  have hKK := hKK0.keep hS.2.1
  obtain ⟨t1, F2, hRM, hW, hM2, hsM⟩ := hP
  have hsyn : ck_syn n kC rC VC LC ncC nrC t1 rM V L nc nr := ck_sy_ro (RC := fun k r => ck_Rsum (fun q => ck_df V q nc) a0 k r) (RM := fun k r => ck_Rsum (fun q => ck_df V q nc) a0 k r) hJ (fun _ _ _ _ a b => ck_u_sum a b) hRC ⟨hRM, rfl, rfl, rfl, rfl⟩
  have hNew := ck_S.of hW hC1 hsM hM2 (hNs 52 (Or.inr (Or.inl (by decide)))) hF1 hsyn
  refine lv_istore (lv' := [(6, .int rM), (5, .int kC), (4, .int (nI i)), (3, .ref (ad 52)), (2, .ref (ad 30)), (1, .ref (ad 0)), (0, .ref b)]) hx hb dL_law_1265 hl (by decide) rfl (fun ls hl => ?_)
  refine lv_aload_n hx hb dL_law_1267 rfl (lv_at hl 4 rfl) ?_
  refine ck_cVi (As := []) (rest := []) ⟨hx, hb, hml, hown, hts⟩ hKK (ct_X5_thrown l G H ad N1 F2 hW V L nc nr t1 hM2) (cwV 0 hts gL_law_X5_thrown rfl rfl rfl (by decide +kernel) ⟨Nat.le_of_ble_eq_true rfl, Nat.le_of_ble_eq_true rfl⟩) (ck_recv hK hW (hM2.n 30 (by decide) (by decide)) hM2.f30 rfl) rfl hl rfl (Nat.le_of_ble_eq_true rfl) dL_law_1268 ⟨by show cells + 1 + 0 + 0 ≤ 601024; omega, by show slots + 6 + 0 + 0 ≤ 7293034; omega⟩ (fun r_t h_t => ?_)
  subst h_t
  refine lv_iload hx hb dL_law_1271 (lv_at hl 1 rfl) ?_
  refine lv_icmp_eq (tgt := 1278) hx hb dL_law_1273 (by decide) (fun _ => ?_) (fun c9 => absurd hsyn.1 c9)
  refine lv_iload hx hb dL_law_1278 (lv_at hl 1 rfl) ?_
  refine lv_if_ne (tgt := 1295) hx hb dL_law_1280 (by decide) (fun c8 => ?_) (fun c8 => ?_)
  · skip
    refine lv_goto (tgt := 1398) hx hb dL_law_1295 (by decide) ?_
    refine W.widen (k := cells + 2) (n := slots + 14) (by omega) (by omega) ?_
    exact kk H locs ls hS hNew (lv_sub hl [2, 3, 4, 5, 6] rfl)
  · skip
    refine lv_aload_n hx hb dL_law_1283 rfl (lv_at hl 3 rfl) ?_
    refine lv_iconst (v := 0) hx hb dL_law_1284 (by decide) ?_
    refine ck_lald hx hb hK hW (hNs 52 (Or.inr (Or.inl (by decide)))) ((hsM 52 (by decide)).trans hF1) 0 (by decide) (by decide) (by decide) dL_law_1285 ?_
    refine lv_iload hx hb dL_law_1286 (lv_at hl 0 rfl) ?_
    refine lv_i2l (v := (rM : Int32).toInt64) hx hb dL_law_1288 rfl ?_
    refine W.lcmp hx hb dL_law_1289 ?_
    refine lv_if_eq (tgt := 1295) hx hb dL_law_1290 (by decide) (fun _ => ?_) (fun c9 => absurd ((ck_cmp1 _ _).mpr (by rw [hg1 c8, hsyn.2.1 c8])) c9)
    refine lv_goto (tgt := 1398) hx hb dL_law_1295 (by decide) ?_
    refine W.widen (k := cells + 2) (n := slots + 14) (by omega) (by omega) ?_
    exact kk H locs ls hS hNew (lv_sub hl [2, 3, 4, 5, 6] rfl)
set_option maxHeartbeats 4000000 in
set_option maxRecDepth 100000 in
theorem cl_narrow {p : Program} {l : Launch} {e : Env} {s : State} {m : MethodId} {below : List Frame} {meth : Method} {c : Code} {G : ck_G} {b Ln : Nat} {xs : Nat → Int32} (hlt : l.stackTraces = false) (C0 : lw_At p s m meth c b Ln xs) (hKK0 : ck_K G s.heap s) (hGz : G.2.2.2 = s.heap.size) (hLn : Ln ≤ 3584) {i n x0 m0 o0 : Nat} (hi : i + 7 ≤ Ln) (hn : n < 100000) {H : Heap} {locs : List Loc} (hS : va_S (ck_A G) s.heap H locs) (hSt : ck_S G x0 m0 o0 n H) {ls : Array Slot} (hl : lv_has ls 7 [(4, .int (nI i)), (3, .ref o0), (2, .ref m0), (1, .ref x0), (0, .ref b)]) {cells slots : Nat} (hcl : cells + 2 ≤ 601024) (hsl : slots + 14 ≤ 7293034) {Q : State → Prop} (kk : ∀ (H : Heap) (locs : List Loc) (ls : Array Slot), va_S (ck_A G) s.heap H locs → ck_S G x0 m0 o0 (n + 1) H → lv_has ls 7 [(4, .int (nI i)), (3, .ref o0), (2, .ref m0), (1, .ref x0), (0, .ref b)] → W p l e room_1 s m #[.ref b] below meth c H locs (cells + 2) (slots + 14) Q (F0 m 1398 ls [])) : W p l e room_1 s m #[.ref b] below meth c H locs cells slots Q (F0 m 1298 ls []) := by
  obtain ⟨hx, hb, hr, hml, hown, hts0, hX, hbl, hlocks, hgv⟩ := C0
  have hts : ∀ w ∈ wsL_law, w.before #[Value.ref b] s = true := fun w h => hts0 w (wsL_law_in w h)
  have hown : s.vm.findClass RL = some m.cls := hown
  have hbA : ¬ ck_A G b := by show ¬ (G.2.2.2 ≤ b); rw [hGz]; omega
  obtain ⟨ad, F, V, L, nc, nr, t, g, hW, hC, hM, hJ, hF52, rfl, rfl, rfl, ha1, ha2⟩ := hSt.fresh
  have hK := hKK0.1.1
  have hKK := hKK0.keep hS.2.1
  obtain ⟨a0, ea0⟩ : ∃ y, xs (nI i + 1).toNatClampNeg = y := ⟨_, rfl⟩
  refine lv_aload_n hx hb dL_law_1298 rfl (lv_at hl 3 rfl) ?_
  refine lv_aload_n hx hb dL_law_1299 rfl (lv_at hl 4 rfl) ?_
  refine lv_iload hx hb dL_law_1300 (lv_at hl 0 rfl) ?_
  refine lv_iconst (v := 1) hx hb dL_law_1302 (by decide) ?_
  refine lv_iadd hx hb dL_law_1303 ?_
  refine ck_sld hx hb hX hbl hbA hS (ck_ixs (k := 1) (by omega) hLn) ea0 dL_law_1304 ?_
  refine lv_aload_n hx hb dL_law_1305 rfl (lv_at hl 1 rfl) ?_
  refine ck_cLi (As := [.ref (ad 0), .int a0, .ref (ad 52)]) (rest := []) ⟨hx, hb, hml, hown, hts⟩ hKK (ct_L_narrow l G H ad (ck_Nn nc nr) F hW V L nc nr hC hlt (Or.inr (Or.inl (by decide))) g hF52 a0) (vx_cwSW 3 hts gL_law_L_narrow rfl rfl rfl (by decide +kernel) ⟨Nat.le_of_ble_eq_true rfl, Nat.le_of_ble_eq_true rfl⟩) rfl hl rfl (Nat.le_of_ble_eq_true rfl) dL_law_1306 ⟨by show cells + 1 ≤ 601024; omega, by show slots + 6 ≤ 7293034; omega⟩ hS (fun kC H locs hP hz hS => ?_)
  obtain ⟨rC, VC, LC, ncC, nrC, N1, F1, g1, hRC, hg1, hF1, hNs, hW, hC1, ho⟩ := hP
  have hM1 : ck_M G ad V L nc nr t N1 F1 := hM.fE ho (fun i h1 h2 => hNs i (Or.inr (Or.inl (by omega))))
  have hKK := hKK0.keep hS.2.1
  refine lv_istore (lv' := [(5, .int kC), (4, .int (nI i)), (3, .ref (ad 52)), (2, .ref (ad 30)), (1, .ref (ad 0)), (0, .ref b)]) hx hb dL_law_1309 hl (by decide) rfl (fun ls hl => ?_)
  refine lv_aload_n hx hb dL_law_1311 rfl (lv_at hl 3 rfl) ?_
  refine lv_aload_n hx hb dL_law_1312 rfl (lv_at hl 5 rfl) ?_
  refine lv_iload hx hb dL_law_1313 (lv_at hl 1 rfl) ?_
  refine lv_iconst (v := 1) hx hb dL_law_1315 (by decide) ?_
  refine lv_iadd hx hb dL_law_1316 ?_
  refine ck_sld hx hb hX hbl hbA hS (ck_ixs (k := 1) (by omega) hLn) ea0 dL_law_1317 ?_
  refine ck_cVw (As := [.int a0]) (rest := []) ⟨hx, hb, hml, hown, hts⟩ hKK (ct_X5_narrow l G H ad N1 F1 hW V L nc nr t hM1 hJ.1 (hJ.1.dfR hC.nc) a0) (cwV 1 hts gL_law_X5_narrow rfl rfl rfl (by decide +kernel) ⟨Nat.le_of_ble_eq_true rfl, Nat.le_of_ble_eq_true rfl⟩) (ck_recv hK hW (hM1.n 30 (by decide) (by decide)) hM1.f30 rfl) rfl hl rfl (Nat.le_of_ble_eq_true rfl) dL_law_1318 ⟨by show cells + 1 + 0 ≤ 601024; omega, by show slots + 6 + 0 ≤ 7293034; omega⟩ hS (fun rM H locs hP hz hS => ?_)
  have hKK := hKK0.keep hS.2.1
  obtain ⟨t1, F2, hRM, hW, hM2, hsM⟩ := hP
  have hsyn : ck_syn n kC rC VC LC ncC nrC t1 rM V L nc nr := ck_sy_ro (RC := fun k r => ck_Rnar V nc a0 k r) (RM := fun k r => ck_Rnar V nc a0 k r) hJ (fun _ _ _ _ a b => ck_u_nar a b) hRC ⟨hRM, rfl, rfl, rfl, rfl⟩
  have hNew := ck_S.of hW hC1 hsM hM2 (hNs 52 (Or.inr (Or.inl (by decide)))) hF1 hsyn
  refine lv_istore (lv' := [(6, .int rM), (5, .int kC), (4, .int (nI i)), (3, .ref (ad 52)), (2, .ref (ad 30)), (1, .ref (ad 0)), (0, .ref b)]) hx hb dL_law_1321 hl (by decide) rfl (fun ls hl => ?_)
  refine lv_aload_n hx hb dL_law_1323 rfl (lv_at hl 4 rfl) ?_
  refine ck_cVi (As := []) (rest := []) ⟨hx, hb, hml, hown, hts⟩ hKK (ct_X5_thrown l G H ad N1 F2 hW V L nc nr t1 hM2) (cwV 0 hts gL_law_X5_thrown rfl rfl rfl (by decide +kernel) ⟨Nat.le_of_ble_eq_true rfl, Nat.le_of_ble_eq_true rfl⟩) (ck_recv hK hW (hM2.n 30 (by decide) (by decide)) hM2.f30 rfl) rfl hl rfl (Nat.le_of_ble_eq_true rfl) dL_law_1324 ⟨by show cells + 1 + 0 + 0 ≤ 601024; omega, by show slots + 6 + 0 + 0 ≤ 7293034; omega⟩ (fun r_t h_t => ?_)
  subst h_t
  refine lv_iload hx hb dL_law_1327 (lv_at hl 1 rfl) ?_
  refine lv_icmp_eq (tgt := 1334) hx hb dL_law_1329 (by decide) (fun _ => ?_) (fun c9 => absurd hsyn.1 c9)
  refine lv_iload hx hb dL_law_1334 (lv_at hl 1 rfl) ?_
  refine lv_if_ne (tgt := 1351) hx hb dL_law_1336 (by decide) (fun c8 => ?_) (fun c8 => ?_)
  · skip
    refine lv_goto (tgt := 1398) hx hb dL_law_1351 (by decide) ?_
    refine W.widen (k := cells + 2) (n := slots + 14) (by omega) (by omega) ?_
    exact kk H locs ls hS hNew (lv_sub hl [2, 3, 4, 5, 6] rfl)
  · skip
    refine lv_aload_n hx hb dL_law_1339 rfl (lv_at hl 3 rfl) ?_
    refine lv_iconst (v := 0) hx hb dL_law_1340 (by decide) ?_
    refine ck_lald hx hb hK hW (hNs 52 (Or.inr (Or.inl (by decide)))) ((hsM 52 (by decide)).trans hF1) 0 (by decide) (by decide) (by decide) dL_law_1341 ?_
    refine lv_iload hx hb dL_law_1342 (lv_at hl 0 rfl) ?_
    refine lv_i2l (v := (rM : Int32).toInt64) hx hb dL_law_1344 rfl ?_
    refine W.lcmp hx hb dL_law_1345 ?_
    refine lv_if_eq (tgt := 1351) hx hb dL_law_1346 (by decide) (fun _ => ?_) (fun c9 => absurd ((ck_cmp1 _ _).mpr (by rw [hg1 c8, hsyn.2.1 c8])) c9)
    refine lv_goto (tgt := 1398) hx hb dL_law_1351 (by decide) ?_
    refine W.widen (k := cells + 2) (n := slots + 14) (by omega) (by omega) ?_
    exact kk H locs ls hS hNew (lv_sub hl [2, 3, 4, 5, 6] rfl)
set_option maxHeartbeats 4000000 in
set_option maxRecDepth 100000 in
theorem cl_worst {p : Program} {l : Launch} {e : Env} {s : State} {m : MethodId} {below : List Frame} {meth : Method} {c : Code} {G : ck_G} {b Ln : Nat} {xs : Nat → Int32} (hlt : l.stackTraces = false) (C0 : lw_At p s m meth c b Ln xs) (hKK0 : ck_K G s.heap s) (hGz : G.2.2.2 = s.heap.size) (hLn : Ln ≤ 3584) {i n x0 m0 o0 : Nat} (hi : i + 7 ≤ Ln) (hn : n < 100000) {H : Heap} {locs : List Loc} (hS : va_S (ck_A G) s.heap H locs) (hSt : ck_S G x0 m0 o0 n H) {ls : Array Slot} (hl : lv_has ls 7 [(4, .int (nI i)), (3, .ref o0), (2, .ref m0), (1, .ref x0), (0, .ref b)]) {cells slots : Nat} (hcl : cells + 2 ≤ 601024) (hsl : slots + 14 ≤ 7293034) {Q : State → Prop} (kk : ∀ (H : Heap) (locs : List Loc) (ls : Array Slot), va_S (ck_A G) s.heap H locs → ck_S G x0 m0 o0 (n + 1) H → lv_has ls 7 [(4, .int (nI i)), (3, .ref o0), (2, .ref m0), (1, .ref x0), (0, .ref b)] → W p l e room_1 s m #[.ref b] below meth c H locs (cells + 2) (slots + 14) Q (F0 m 1398 ls [])) : W p l e room_1 s m #[.ref b] below meth c H locs cells slots Q (F0 m 1354 ls []) := by
  obtain ⟨hx, hb, hr, hml, hown, hts0, hX, hbl, hlocks, hgv⟩ := C0
  have hts : ∀ w ∈ wsL_law, w.before #[Value.ref b] s = true := fun w h => hts0 w (wsL_law_in w h)
  have hown : s.vm.findClass RL = some m.cls := hown
  have hbA : ¬ ck_A G b := by show ¬ (G.2.2.2 ≤ b); rw [hGz]; omega
  obtain ⟨ad, F, V, L, nc, nr, t, g, hW, hC, hM, hJ, hF52, rfl, rfl, rfl, ha1, ha2⟩ := hSt.fresh
  have hK := hKK0.1.1
  have hKK := hKK0.keep hS.2.1
  refine lv_aload_n hx hb dL_law_1354 rfl (lv_at hl 3 rfl) ?_
  refine lv_aload_n hx hb dL_law_1355 rfl (lv_at hl 1 rfl) ?_
  refine ck_cLi (As := [.ref (ad 0), .ref (ad 52)]) (rest := []) ⟨hx, hb, hml, hown, hts⟩ hKK (ct_L_worst l G H ad (ck_Nn nc nr) F hW V L nc nr hC hlt (Or.inr (Or.inl (by decide))) g hF52) (vx_cwSW 2 hts gL_law_L_worst rfl rfl rfl (by decide +kernel) ⟨Nat.le_of_ble_eq_true rfl, Nat.le_of_ble_eq_true rfl⟩) rfl hl rfl (Nat.le_of_ble_eq_true rfl) dL_law_1356 ⟨by show cells + 1 ≤ 601024; omega, by show slots + 6 ≤ 7293034; omega⟩ hS (fun kC H locs hP hz hS => ?_)
  obtain ⟨rC, VC, LC, ncC, nrC, N1, F1, g1, hRC, hg1, hF1, hNs, hW, hC1, ho⟩ := hP
  have hM1 : ck_M G ad V L nc nr t N1 F1 := hM.fE ho (fun i h1 h2 => hNs i (Or.inr (Or.inl (by omega))))
  have hKK := hKK0.keep hS.2.1
  refine lv_istore (lv' := [(5, .int kC), (4, .int (nI i)), (3, .ref (ad 52)), (2, .ref (ad 30)), (1, .ref (ad 0)), (0, .ref b)]) hx hb dL_law_1359 hl (by decide) rfl (fun ls hl => ?_)
  refine lv_aload_n hx hb dL_law_1361 rfl (lv_at hl 3 rfl) ?_
  refine ck_cVw (As := []) (rest := []) ⟨hx, hb, hml, hown, hts⟩ hKK (ct_X5_worst l G H ad N1 F1 hW V L nc nr t hM1 hJ.1) (cwV 0 hts gL_law_X5_worst rfl rfl rfl (by decide +kernel) ⟨Nat.le_of_ble_eq_true rfl, Nat.le_of_ble_eq_true rfl⟩) (ck_recv hK hW (hM1.n 30 (by decide) (by decide)) hM1.f30 rfl) rfl hl rfl (Nat.le_of_ble_eq_true rfl) dL_law_1362 ⟨by show cells + 1 + 0 ≤ 601024; omega, by show slots + 6 + 0 ≤ 7293034; omega⟩ hS (fun rM H locs hP hz hS => ?_)
  have hKK := hKK0.keep hS.2.1
  obtain ⟨t1, F2, hRM, hW, hM2, hsM⟩ := hP
  have hsyn : ck_syn n kC rC VC LC ncC nrC t1 rM V L nc nr := ck_sy_ro (RC := fun k r => ck_Rworst V nc k r) (RM := fun k r => ck_Rworst V nc k r) hJ (fun _ _ _ _ a b => ck_u_worst a b) hRC ⟨hRM, rfl, rfl, rfl, rfl⟩
  have hNew := ck_S.of hW hC1 hsM hM2 (hNs 52 (Or.inr (Or.inl (by decide)))) hF1 hsyn
  refine lv_istore (lv' := [(6, .int rM), (5, .int kC), (4, .int (nI i)), (3, .ref (ad 52)), (2, .ref (ad 30)), (1, .ref (ad 0)), (0, .ref b)]) hx hb dL_law_1365 hl (by decide) rfl (fun ls hl => ?_)
  refine lv_aload_n hx hb dL_law_1367 rfl (lv_at hl 4 rfl) ?_
  refine ck_cVi (As := []) (rest := []) ⟨hx, hb, hml, hown, hts⟩ hKK (ct_X5_thrown l G H ad N1 F2 hW V L nc nr t1 hM2) (cwV 0 hts gL_law_X5_thrown rfl rfl rfl (by decide +kernel) ⟨Nat.le_of_ble_eq_true rfl, Nat.le_of_ble_eq_true rfl⟩) (ck_recv hK hW (hM2.n 30 (by decide) (by decide)) hM2.f30 rfl) rfl hl rfl (Nat.le_of_ble_eq_true rfl) dL_law_1368 ⟨by show cells + 1 + 0 + 0 ≤ 601024; omega, by show slots + 6 + 0 + 0 ≤ 7293034; omega⟩ (fun r_t h_t => ?_)
  subst h_t
  refine lv_iload hx hb dL_law_1371 (lv_at hl 1 rfl) ?_
  refine lv_icmp_eq (tgt := 1378) hx hb dL_law_1373 (by decide) (fun _ => ?_) (fun c9 => absurd hsyn.1 c9)
  refine lv_iload hx hb dL_law_1378 (lv_at hl 1 rfl) ?_
  refine lv_if_ne (tgt := 1395) hx hb dL_law_1380 (by decide) (fun c8 => ?_) (fun c8 => ?_)
  · skip
    refine lv_goto (tgt := 1398) hx hb dL_law_1395 (by decide) ?_
    refine W.widen (k := cells + 2) (n := slots + 14) (by omega) (by omega) ?_
    exact kk H locs ls hS hNew (lv_sub hl [2, 3, 4, 5, 6] rfl)
  · skip
    refine lv_aload_n hx hb dL_law_1383 rfl (lv_at hl 3 rfl) ?_
    refine lv_iconst (v := 0) hx hb dL_law_1384 (by decide) ?_
    refine ck_lald hx hb hK hW (hNs 52 (Or.inr (Or.inl (by decide)))) ((hsM 52 (by decide)).trans hF1) 0 (by decide) (by decide) (by decide) dL_law_1385 ?_
    refine lv_iload hx hb dL_law_1386 (lv_at hl 0 rfl) ?_
    refine lv_i2l (v := (rM : Int32).toInt64) hx hb dL_law_1388 rfl ?_
    refine W.lcmp hx hb dL_law_1389 ?_
    refine lv_if_eq (tgt := 1395) hx hb dL_law_1390 (by decide) (fun _ => ?_) (fun c9 => absurd ((ck_cmp1 _ _).mpr (by rw [hg1 c8, hsyn.2.1 c8])) c9)
    refine lv_goto (tgt := 1398) hx hb dL_law_1395 (by decide) ?_
    refine W.widen (k := cells + 2) (n := slots + 14) (by omega) (by omega) ?_
    exact kk H locs ls hS hNew (lv_sub hl [2, 3, 4, 5, 6] rfl)
