theorem ck_S.mono {G : ck_G} {x0 m0 o0 n : Nat} {H : Heap} (h : ck_S G x0 m0 o0 n H) : ck_S G x0 m0 o0 (n + 1) H := by
  obtain ⟨ad, F, V, L, nc, nr, t, g, hW, hC, hM, hJ, hr⟩ := h
  exact ⟨ad, F, V, L, nc, nr, t, g, hW, hC, hM, hJ.mono (Nat.le_succ n), hr⟩
theorem ck_lt7 {i Ln : Nat} (hi : i ≤ 4000) (hLn : Ln ≤ 3584) (h : ¬ Int32.ofNat Ln - 7 < nI i) : i + 7 ≤ Ln := by
  rcases Nat.lt_or_ge Ln (i + 7) with q | q
  · refine absurd ?_ h
    have e1 : (Int32.ofNat Ln).toInt = (Ln : Int) := nI_toInt (n := Ln) (by omega)
    have e2 : (7 : Int32).toInt = 7 := rfl
    rw [fa_lt, fb_subI (by rw [e1, e2]; omega) (by rw [e1, e2]; omega), e1, e2, nI_toInt (by omega)]
    omega
  · exact q
set_option maxHeartbeats 4000000 in
set_option maxRecDepth 100000 in
/-- the law's loop: its head, its end -/
theorem ck_head {p : Program} {l : Launch} {e : Env} {s : State} {m : MethodId} {below : List Frame} {meth : Method} {c : Code} {G : ck_G} {b Ln : Nat} {xs : Nat → Int32} (C0 : lw_At p s m meth c b Ln xs) (hGz : G.2.2.2 = s.heap.size) (hLn : Ln ≤ 3584) {i x0 m0 o0 : Nat} (hi : i ≤ 4000) {H : Heap} {locs : List Loc} (hS : va_S (ck_A G) s.heap H locs) {ls : Array Slot} (hl : lv_has ls 7 [(4, .int (nI i)), (3, .ref o0), (2, .ref m0), (1, .ref x0), (0, .ref b)]) {cells slots : Nat} (hcl : cells ≤ 601024) (hsl : slots ≤ 7293034) (hstep : i + 7 ≤ Ln → W p l e room_1 s m #[.ref b] below meth c H locs cells slots (lw_Z below #[.ref b] s) (F0 m 33 ls [])) : W p l e room_1 s m #[.ref b] below meth c H locs cells slots (lw_Z below #[.ref b] s) (F0 m 23 ls []) := by
  obtain ⟨hx, hb, hr, hml, hown, hts0, hX, hbl, hlocks, hgv⟩ := C0
  have hbA : ¬ ck_A G b := by show ¬ (G.2.2.2 ≤ b); rw [hGz]; omega
  refine lv_iload hx hb dL_law_23 (lv_at hl 0 rfl) ?_
  refine lv_aload_n hx hb dL_law_25 rfl (lv_at hl 4 rfl) ?_
  refine va_slen hx hb hX hbl hbA hS dL_law_26 ?_
  refine lv_bipush (v := 7) hx hb dL_law_27 (by decide) ?_
  refine lv_isub hx hb dL_law_29 ?_
  refine lv_icmp_gt (tgt := 1404) hx hb dL_law_30 (by decide) (fun c_30 => ?_) (fun c_30 => ?_)
  · refine lv_iconst (v := 1) hx hb dL_law_1404 (by decide) ?_
    refine va_forget (fun q hq => by have h : G.2.2.2 ≤ q.base := hS.2.2 q hq; omega) ?_
    refine W.widen (k := 601024) (n := 7293034) hcl hsl ?_
    exact lw_ret hx hb hr hlocks dL_law_1405
  · exact hstep (ck_lt7 hi hLn c_30)
set_option maxHeartbeats 4000000 in
set_option maxRecDepth 100000 in
/-- one call of the script -/
theorem ck_step {p : Program} {l : Launch} {e : Env} {s : State} {m : MethodId} {below : List Frame} {meth : Method} {c : Code} {G : ck_G} {b Ln : Nat} {xs : Nat → Int32} (hlt : l.stackTraces = false) (C0 : lw_At p s m meth c b Ln xs) (hKK0 : ck_K G s.heap s) (hGz : G.2.2.2 = s.heap.size) (hLn : Ln ≤ 3584) {i n x0 m0 o0 : Nat} (hi : i + 7 ≤ Ln) (hn : n < 100000) {H : Heap} {locs : List Loc} (hS : va_S (ck_A G) s.heap H locs) (hSt : ck_S G x0 m0 o0 n H) {ls : Array Slot} (hl : lv_has ls 7 [(4, .int (nI i)), (3, .ref o0), (2, .ref m0), (1, .ref x0), (0, .ref b)]) {cells slots : Nat} (hcl : cells + 2 ≤ 601024) (hsl : slots + 14 ≤ 7293034) {Q : State → Prop} (kk : ∀ (H : Heap) (locs : List Loc) (ls : Array Slot), va_S (ck_A G) s.heap H locs → ck_S G x0 m0 o0 (n + 1) H → lv_has ls 7 [(4, .int (nI i)), (3, .ref o0), (2, .ref m0), (1, .ref x0), (0, .ref b)] → W p l e room_1 s m #[.ref b] below meth c H locs (cells + 2) (slots + 14) Q (F0 m 1398 ls [])) : W p l e room_1 s m #[.ref b] below meth c H locs cells slots Q (F0 m 33 ls []) := by
  obtain ⟨hx, hb, hr, hml, hown, hts0, hX, hbl, hlocks, hgv⟩ := id C0
  have hbA : ¬ ck_A G b := by show ¬ (G.2.2.2 ≤ b); rw [hGz]; omega
  refine lv_aload_n hx hb dL_law_33 rfl (lv_at hl 4 rfl) ?_
  refine lv_iload hx hb dL_law_34 (lv_at hl 0 rfl) ?_
  refine ck_sld hx hb hX hbl hbA hS (vp_in_nI (show i < Ln by omega) (by omega)) rfl dL_law_36 ?_
  refine lv_bipush (v := 31) hx hb dL_law_37 (by decide) ?_
  refine lv_iand hx hb dL_law_39 ?_
  obtain ⟨j, hj, ej⟩ := pk_andE (xs (nI i).toNatClampNeg) (m := 31) 5 (by decide)
  rw [ej]
  have cs : j = 0 ∨ j = 1 ∨ j = 2 ∨ j = 3 ∨ j = 4 ∨ j = 5 ∨ j = 6 ∨ j = 7 ∨ j = 8 ∨ j = 9 ∨ j = 10 ∨ j = 11 ∨ j = 12 ∨ j = 13 ∨ j = 14 ∨ j = 15 ∨ j = 16 ∨ j = 17 ∨ j = 18 ∨ j = 19 ∨ j = 20 ∨ j = 21 ∨ 22 ≤ j := by omega
  rcases cs with rfl | rfl | rfl | rfl | rfl | rfl | rfl | rfl | rfl | rfl | rfl | rfl | rfl | rfl | rfl | rfl | rfl | rfl | rfl | rfl | rfl | rfl | hj2
  · exact lv_tableIn (tgt := 144) (off := 104) hx hb dL_law_40 (by decide) (by decide) (by decide) (by decide) (cl_setBound hlt C0 hKK0 hGz hLn hi hn hS hSt hl hcl hsl kk)
  · exact lv_tableIn (tgt := 200) (off := 160) hx hb dL_law_40 (by decide) (by decide) (by decide) (by decide) (cl_record hlt C0 hKK0 hGz hLn hi hn hS hSt hl hcl hsl kk)
  · exact lv_tableIn (tgt := 304) (off := 264) hx hb dL_law_40 (by decide) (by decide) (by decide) (by decide) (cl_gaps hlt C0 hKK0 hGz hLn hi hn hS hSt hl hcl hsl kk)
  · exact lv_tableIn (tgt := 360) (off := 320) hx hb dL_law_40 (by decide) (by decide) (by decide) (by decide) (cl_doubles hlt C0 hKK0 hGz hLn hi hn hS hSt hl hcl hsl kk)
  · exact lv_tableIn (tgt := 416) (off := 376) hx hb dL_law_40 (by decide) (by decide) (by decide) (by decide) (cl_calls hlt C0 hKK0 hGz hLn hi hn hS hSt hl hcl hsl kk)
  · exact lv_tableIn (tgt := 429) (off := 389) hx hb dL_law_40 (by decide) (by decide) (by decide) (by decide) (cl_legs hlt C0 hKK0 hGz hLn hi hn hS hSt hl hcl hsl kk)
  · exact lv_tableIn (tgt := 485) (off := 445) hx hb dL_law_40 (by decide) (by decide) (by decide) (by decide) (cl_length hlt C0 hKK0 hGz hLn hi hn hS hSt hl hcl hsl kk)
  · exact lv_tableIn (tgt := 541) (off := 501) hx hb dL_law_40 (by decide) (by decide) (by decide) (by decide) (cl_addRate hlt C0 hKK0 hGz hLn hi hn hS hSt hl hcl hsl kk)
  · exact lv_tableIn (tgt := 659) (off := 619) hx hb dL_law_40 (by decide) (by decide) (by decide) (by decide) (cl_rateFor hlt C0 hKK0 hGz hLn hi hn hS hSt hl hcl hsl kk)
  · exact lv_tableIn (tgt := 727) (off := 687) hx hb dL_law_40 (by decide) (by decide) (by decide) (by decide) (cl_charge hlt C0 hKK0 hGz hLn hi hn hS hSt hl hcl hsl kk)
  · exact lv_tableIn (tgt := 783) (off := 743) hx hb dL_law_40 (by decide) (by decide) (by decide) (by decide) (cl_book hlt C0 hKK0 hGz hLn hi hn hS hSt hl hcl hsl kk)
  · exact lv_tableIn (tgt := 796) (off := 756) hx hb dL_law_40 (by decide) (by decide) (by decide) (by decide) (cl_booked hlt C0 hKK0 hGz hLn hi hn hS hSt hl hcl hsl kk)
  · exact lv_tableIn (tgt := 852) (off := 812) hx hb dL_law_40 (by decide) (by decide) (by decide) (by decide) (cl_correct hlt C0 hKK0 hGz hLn hi hn hS hSt hl hcl hsl kk)
  · exact lv_tableIn (tgt := 865) (off := 825) hx hb dL_law_40 (by decide) (by decide) (by decide) (by decide) (cl_corrections hlt C0 hKK0 hGz hLn hi hn hS hSt hl hcl hsl kk)
  · exact lv_tableIn (tgt := 878) (off := 838) hx hb dL_law_40 (by decide) (by decide) (by decide) (by decide) (cl_total hlt C0 hKK0 hGz hLn hi hn hS hSt hl hcl hsl kk)
  · exact lv_tableIn (tgt := 934) (off := 894) hx hb dL_law_40 (by decide) (by decide) (by decide) (by decide) (cl_offer hlt C0 hKK0 hGz hLn hi hn hS hSt hl hcl hsl kk)
  · exact lv_tableIn (tgt := 1014) (off := 974) hx hb dL_law_40 (by decide) (by decide) (by decide) (by decide) (cl_offerFor hlt C0 hKK0 hGz hLn hi hn hS hSt hl hcl hsl kk)
  · exact lv_tableIn (tgt := 1082) (off := 1042) hx hb dL_law_40 (by decide) (by decide) (by decide) (by decide) (cl_route hlt C0 hKK0 hGz hLn hi hn hS hSt hl hcl hsl kk)
  · exact lv_tableIn (tgt := 1174) (off := 1134) hx hb dL_law_40 (by decide) (by decide) (by decide) (by decide) (cl_claim hlt C0 hKK0 hGz hLn hi hn hS hSt hl hcl hsl kk)
  · exact lv_tableIn (tgt := 1242) (off := 1202) hx hb dL_law_40 (by decide) (by decide) (by decide) (by decide) (cl_difference hlt C0 hKK0 hGz hLn hi hn hS hSt hl hcl hsl kk)
  · exact lv_tableIn (tgt := 1298) (off := 1258) hx hb dL_law_40 (by decide) (by decide) (by decide) (by decide) (cl_narrow hlt C0 hKK0 hGz hLn hi hn hS hSt hl hcl hsl kk)
  · exact lv_tableIn (tgt := 1354) (off := 1314) hx hb dL_law_40 (by decide) (by decide) (by decide) (by decide) (cl_worst hlt C0 hKK0 hGz hLn hi hn hS hSt hl hcl hsl kk)
  · refine lv_tableOut (tgt := 1398) hx hb dL_law_40 (Or.inr (by rw [nI_toInt (by omega)]; omega)) (by decide) ?_
    refine W.widen (k := cells + 2) (n := slots + 14) (by omega) (by omega) ?_
    exact kk H locs ls hS hSt.mono hl
set_option maxHeartbeats 4000000 in
set_option maxRecDepth 100000 in
theorem ck_loopLaw {p : Program} {l : Launch} {e : Env} {s : State} {m : MethodId} {below : List Frame} {meth : Method} {c : Code} {G : ck_G} {b Ln : Nat} {xs : Nat → Int32} (hlt : l.stackTraces = false) (C0 : lw_At p s m meth c b Ln xs) (hKK0 : ck_K G s.heap s) (hGz : G.2.2.2 = s.heap.size) (hLn : Ln ≤ 3584) {x0 m0 o0 : Nat} : ∀ (k n i : Nat), i = 7 * n → n + k = 512 → ∀ (H : Heap) (locs : List Loc) (ls : Array Slot), va_S (ck_A G) s.heap H locs → ck_S G x0 m0 o0 n H → lv_has ls 7 [(4, .int (nI i)), (3, .ref o0), (2, .ref m0), (1, .ref x0), (0, .ref b)] → W p l e room_1 s m #[.ref b] below meth c H locs (46 + 2 * n) (1873 + 14 * n) (lw_Z below #[.ref b] s) (F0 m 23 ls []) := by
  intro k
  induction k with
  | zero =>
    intro n i hi hk H locs ls hS hSt hl
    exact ck_head C0 hGz hLn (by omega) hS hl (by omega) (by omega) (fun h => absurd h (by omega))
  | succ k ih =>
    intro n i hi hk H locs ls hS hSt hl
    refine ck_head C0 hGz hLn (by omega) hS hl (by omega) (by omega) (fun h7 => ?_)
    refine ck_step hlt C0 hKK0 hGz hLn h7 (by omega) hS hSt hl (by omega) (by omega) (fun H locs ls hS hSt hl => ?_)
    obtain ⟨hx, hb, -⟩ := id C0
    have e7 : nI i + Int32.ofInt 7 = nI (i + 7) := by
      rw [show Int32.ofInt 7 = nI 7 by decide, nI_add]
    refine lv_iinc (v := nI (i + 7)) (lv' := [(4, .int (nI (i + 7))), (3, .ref o0), (2, .ref m0), (1, .ref x0), (0, .ref b)]) hx hb dL_law_1398 hl (k := 0) rfl e7 (by decide) rfl (fun ls hl => ?_)
    refine lv_goto (tgt := 23) hx hb dL_law_1401 (by decide) ?_
    have h9 := ih (n + 1) (i + 7) (by omega) (by omega) H locs ls hS hSt hl
    rw [show 46 + 2 * n + 2 = 46 + 2 * (n + 1) by omega, show 1873 + 14 * n + 14 = 1873 + 14 * (n + 1) by omega]
    exact h9
