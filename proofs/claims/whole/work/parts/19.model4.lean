theorem ck_ap_2 {x y : Int32} (hx : ck_rg 0 x 100000000) (hy : ck_rg 0 y 100000000) : ck_ap x y = ck_abs (x - y) := by
  obtain ⟨a1, a2⟩ := hx
  obtain ⟨b1, b2⟩ := hy
  have e1 : (y - x).toInt = y.toInt - x.toInt := fb_subI (by omega) (by omega)
  have e2 : (x - y).toInt = x.toInt - y.toInt := fb_subI (by omega) (by omega)
  unfold ck_ap ck_abs
  by_cases h : x < y
  · rw [if_pos h]
    rw [fa_lt] at h
    rw [if_neg (by rw [fa_le, e2, ck_toI0]; omega), fa_eq, e1, fb_subI (by rw [e2, ck_toI0]; omega) (by rw [e2, ck_toI0]; omega), e2, ck_toI0]; omega
  · rw [if_neg h]
    rw [fa_lt] at h
    rw [if_pos (by rw [fa_le, e2, ck_toI0]; omega)]
theorem ck_ap0 (x : Int32) : ck_ap x 0 = ck_abs x := by
  unfold ck_ap ck_abs
  by_cases h : x < 0
  · rw [if_pos h, if_neg (Int32.not_le.mpr h)]
  · rw [if_neg h, if_pos (Int32.not_lt.mp h), Int32.sub_zero]
theorem ck_bk_rg {b : Int32} (h : ck_rg (-1) b 2000000) : ck_rg 0 (ck_bk b) 2000000 := by
  unfold ck_bk
  by_cases c : b = -1
  · rw [if_pos c]; exact ⟨by decide, by decide⟩
  · rw [if_neg c]; refine ⟨?_, h.2⟩
    have h1 := h.1
    have : ¬ b.toInt = -1 := fun e => c ((fa_eq _ _).mpr e)
    omega
def ck_dp (V : Nat → Nat → Int32) (k : Nat) : Int32 := ck_abs (V 6 k - ck_bk (V 5 k))
def ck_ws (V : Nat → Nat → Int32) : Nat → Nat
  | 0 => 0
  | k + 1 => if ck_dp V (ck_ws V k) < ck_dp V (k + 1) then k + 1 else ck_ws V k
theorem ck_ws_le (V : Nat → Nat → Int32) : ∀ k, ck_ws V k ≤ k
  | 0 => Nat.le_refl _
  | k + 1 => by
    have := ck_ws_le V k
    simp only [ck_ws]; split <;> omega
def ck_Rworst (V : Nat → Nat → Int32) (nc : Nat) (k r : Int32) : Prop := (nc = 0 ∧ k = 1) ∨ (0 < nc ∧ k = 0 ∧ r = nI (ck_ws V (nc - 1)))
theorem ck_I.dp {V : Nat → Nat → Int32} {nc nr : Nat} (h : ck_I V nc nr) {k : Nat} (hk : k < nc) : ck_ap (V 6 k) (ck_bk (V 5 k)) = ck_dp V k := ck_ap_2 ⟨(h.cl k hk).1, by have := (h.cl k hk).2; omega⟩ ⟨(ck_bk_rg (h.bk k hk)).1, by have := (ck_bk_rg (h.bk k hk)).2; omega⟩
set_option maxHeartbeats 4000000 in
set_option maxRecDepth 100000 in
theorem ct_X5_worst (l : Launch) (G : ck_G) (H : Heap) (ad : Nat → Nat) (N : Nat → Prop) (F : Nat → va_E) (hW : ck_W G ad N F H) (V : Nat → Nat → Int32) (L : Nat → Nat → Int64) (nc nr : Nat) (t : Int32) (hM : ck_M G ad V L nc nr t N F) (hI : ck_I V nc nr) : Met l yX5_worst wsX5_worst ({ frames := 1, cells := 0, slots := 0, locals := 21 }) (ck_P G H [.ref (ad 30)]) (ck_Qi G (fun r H1 => ∃ t1 F1, ck_Rworst V nc t1 r ∧ ck_W G ad N F1 H1 ∧ ck_M G ad V L nc nr t1 N F1 ∧ ck_sM F F1)) 0 0 (ck_A G) := by
  refine Met.ofW (cc := cX5_worst) (maxL := 3) (ret := (some .int)) (by decide) rfl ?_
  intro p e s m args below meth c s₁ B hml hv
  obtain ⟨rfl, hH, hKK⟩ := hv
  subst hH
  have hx := B.exec
  have hb := B.bytes
  have hr := B.returns
  have hts := atoms_spec (ws := wsX5_worst) B.pre
  have hown : s.vm.findClass RX5 = some m.cls := findClass_of_methodNamed B.named
  have hlocks := B.notSynchronized
  have hKK0 := hKK
  have hK := hKK.1.1
  have hS : va_S (ck_A G) s.heap s.heap [] := va_S.rf
  have hinX5 : ∀ w ∈ u_ws RX5 TX5 26, w ∈ wsX5_worst := by decide +kernel
  have hl := lv_entry ([.ref (ad 30)]) (n := 3) (Nat.le_of_ble_eq_true rfl)
  rw [lg_entry_eq]
  generalize (lg_sl ([.ref (ad 30)]) ++ List.replicate (3 - (lg_sl ([.ref (ad 30)])).length) Slot.unset).toArray = ls at hl ⊢
  have hl : lv_has ls 3 [(0, .ref (ad 30))] := hl
  have hsm : ck_sM F F := ck_sM.rf
  have hp7 := hI.hp7
  have hn0 := hI.hn0
  have hst := hI.hst
  refine lv_iconst (v := 0) hx hb dX5_worst_0 (by decide) ?_
  refine lv_istore_n (lv' := [(1, .int 0), (0, .ref (ad 30))]) hx hb dX5_worst_1 rfl hl (by decide) rfl (fun ls hl => ?_)
  refine lv_iconst (v := 1) hx hb dX5_worst_2 (by decide) ?_
  refine lv_istore_n (lv' := [(2, .int 1), (1, .int 0), (0, .ref (ad 30))]) hx hb dX5_worst_3 rfl hl (by decide) rfl (fun ls hl => ?_)
  refine ck_loop (P := fun ls => W p l e _ s m _ below meth c _ _ _ _ _ (F0 m _ ls _)) (nc - 1) (fun k => [(2, .int (nI (k + 1))), (1, .int (nI (ck_ws V k))), (0, .ref (ad 30))]) (fun k => True) (lv_sub hl [0, 1, 2] rfl) (trivial) ?_ ?_
  · intro ls hl hI4
    have hl : lv_has ls 3 [(2, .int (nI ((nc - 1) + 1))), (1, .int (nI (ck_ws V (nc - 1)))), (0, .ref (ad 30))] := hl
    refine lv_iload_n hx hb dX5_worst_4 rfl (lv_at hl 0 rfl) ?_
    refine lv_aload_n hx hb dX5_worst_5 rfl (lv_at hl 2 rfl) ?_
    refine ck_get (v := .int (nI nc)) hx hb hts hinX5 hown hK hW (hM.n 30 (by decide) (by decide)) hM.f30 rfl 6 (by decide) (hts _ (List.mem_of_getElem? (i := 1) rfl)) rfl rfl dX5_worst_6 ?_
    refine lv_icmp_ge (tgt := 55) hx hb dX5_worst_9 (by decide) (fun _ => ?_) (fun c_9 => absurd (nI_le (a := nc) (b := nc - 1 + 1) (by omega) (by have := hM.nc; omega)) c_9)
    refine lv_aload_n hx hb dX5_worst_55 rfl (lv_at hl 2 rfl) ?_
    refine lv_aload_n hx hb dX5_worst_56 rfl (lv_at hl 2 rfl) ?_
    refine ck_get (v := .int (nI nc)) hx hb hts hinX5 hown hK hW (hM.n 30 (by decide) (by decide)) hM.f30 rfl 6 (by decide) (hts _ (List.mem_of_getElem? (i := 1) rfl)) rfl rfl dX5_worst_57 ?_
    refine lv_if_le (tgt := 67) hx hb dX5_worst_60 (by decide) (fun c_60 => ?_) (fun c_60 => ?_)
    · skip
      refine lv_iconst (v := 0) hx hb dX5_worst_67 (by decide) ?_
      refine ck_cVw (As := [.int 0]) (rest := []) ⟨hx, hb, hml, hown, hts⟩ hKK (ct_X5_asks0 l G s.heap ad N F hW V L nc nr t hM) (cwV 1 hts gX5_worst_X5_asks rfl rfl rfl (by decide +kernel) ⟨Nat.le_of_ble_eq_true rfl, Nat.le_of_ble_eq_true rfl⟩) (ck_recv hK hW (hM.n 30 (by decide) (by decide)) hM.f30 rfl) rfl hl rfl (Nat.le_of_ble_eq_true rfl) dX5_worst_68 ⟨Nat.le_of_ble_eq_true rfl, Nat.le_of_ble_eq_true rfl⟩ hS (fun r_68 H locs h_68 hz_68 hS => ?_)
      have hKK := hKK0.keep hS.2.1
      obtain ⟨rfl, F_68, hW, hM, hs68⟩ := h_68
      have hsm := hsm.tr hs68
      refine lv_if_eq (tgt := 78) hx hb dX5_worst_71 (by decide) (fun _ => ?_) (fun c_71 => absurd (by decide) c_71)
      refine lv_iconst (v := 0) hx hb dX5_worst_78 (by decide) ?_
      exact W.iret (v := 0) hx hb hr (fun t ht hW9 => ⟨⟨_, rfl, by rw [ht]; exact ⟨_, F_68, Or.inl ⟨by rcases Nat.eq_zero_or_pos nc with z | z; exact z; exact absurd c_60 (nI_nle z (by have := hM.nc; omega)), rfl⟩, hW, hM, hsm⟩⟩, hS.F ht⟩) hS.2.2 dX5_worst_79
    · skip
      refine lv_iconst (v := 1) hx hb dX5_worst_63 (by decide) ?_
      refine lv_goto (tgt := 68) hx hb dX5_worst_64 (by decide) ?_
      refine ck_cVw (As := [.int 1]) (rest := []) ⟨hx, hb, hml, hown, hts⟩ hKK (ct_X5_asks1 l G s.heap ad N F hW V L nc nr t hM) (cwV 1 hts gX5_worst_X5_asks rfl rfl rfl (by decide +kernel) ⟨Nat.le_of_ble_eq_true rfl, Nat.le_of_ble_eq_true rfl⟩) (ck_recv hK hW (hM.n 30 (by decide) (by decide)) hM.f30 rfl) rfl hl rfl (Nat.le_of_ble_eq_true rfl) dX5_worst_68 ⟨Nat.le_of_ble_eq_true rfl, Nat.le_of_ble_eq_true rfl⟩ hS (fun r_68 H locs h_68 hz_68 hS => ?_)
      have hKK := hKK0.keep hS.2.1
      obtain ⟨rfl, F_68, hW, hM, hs68⟩ := h_68
      have hsm := hsm.tr hs68
      refine lv_if_eq (tgt := 78) hx hb dX5_worst_71 (by decide) (fun c_71 => absurd c_71 (by decide)) (fun _ => ?_)
      refine lv_iload_n hx hb dX5_worst_74 rfl (lv_at hl 1 rfl) ?_
      refine lv_goto (tgt := 79) hx hb dX5_worst_75 (by decide) ?_
      exact W.iret (v := (nI (ck_ws V (nc - 1)))) hx hb hr (fun t ht hW9 => ⟨⟨_, rfl, by rw [ht]; exact ⟨_, F_68, Or.inr ⟨by rcases Nat.eq_zero_or_pos nc with z | z; (subst z; exact absurd (Int32.le_refl _) c_60); exact z, rfl, rfl⟩, hW, hM, hsm⟩⟩, hS.F ht⟩) hS.2.2 dX5_worst_79
  · intro k4 hk4 hI4 ih4 ls hl
    have hl : lv_has ls 3 [(2, .int (nI (k4 + 1))), (1, .int (nI (ck_ws V k4))), (0, .ref (ad 30))] := hl
    have hw4 := ck_ws_le V k4
    refine lv_iload_n hx hb dX5_worst_4 rfl (lv_at hl 0 rfl) ?_
    refine lv_aload_n hx hb dX5_worst_5 rfl (lv_at hl 2 rfl) ?_
    refine ck_get (v := .int (nI nc)) hx hb hts hinX5 hown hK hW (hM.n 30 (by decide) (by decide)) hM.f30 rfl 6 (by decide) (hts _ (List.mem_of_getElem? (i := 1) rfl)) rfl rfl dX5_worst_6 ?_
    refine lv_icmp_ge (tgt := 55) hx hb dX5_worst_9 (by decide) (fun c_9 => absurd c_9 (nI_ge (a := k4 + 1) (b := nc) (by omega) (by have := hM.nc; omega))) (fun _ => ?_)
    refine lv_aload_n hx hb dX5_worst_12 rfl (lv_at hl 2 rfl) ?_
    refine ck_get (v := .ref (ad 42)) hx hb hts hinX5 hown hK hW (hM.n 30 (by decide) (by decide)) hM.f30 rfl 13 (by decide) (hts _ (List.mem_of_getElem? (i := 2) rfl)) rfl rfl dX5_worst_13 ?_
    refine lv_iload_n hx hb dX5_worst_16 rfl (lv_at hl 0 rfl) ?_
    refine ck_iald hx hb hK hW (hM.n 42 (by decide) (by decide)) hM.f42 (k4 + 1) (rfl) (by have := hM.nc; omega) (by decide) dX5_worst_17 ?_
    refine lv_aload_n hx hb dX5_worst_18 rfl (lv_at hl 2 rfl) ?_
    refine lv_iload_n hx hb dX5_worst_19 rfl (lv_at hl 0 rfl) ?_
    refine ck_cVi (As := [.int (nI (k4 + 1))]) (rest := [.int (((V 6)) (k4 + 1))]) ⟨hx, hb, hml, hown, hts⟩ hKK (ct_X5_bookedOf l G s.heap ad N F hW V L nc nr t hM (k4 + 1) (by have := hM.nc; have := ck_ws_le V k4; omega)) (cwV 1 hts gX5_worst_X5_bookedOf rfl rfl rfl (by decide +kernel) ⟨Nat.le_of_ble_eq_true rfl, Nat.le_of_ble_eq_true rfl⟩) (ck_recv hK hW (hM.n 30 (by decide) (by decide)) hM.f30 rfl) rfl hl rfl (Nat.le_of_ble_eq_true rfl) dX5_worst_20 ⟨Nat.le_of_ble_eq_true rfl, Nat.le_of_ble_eq_true rfl⟩ (fun r_20 h_20 => ?_)
    subst h_20
    refine ck_cSi (As := [.int (((V 6)) (k4 + 1)), .int (ck_bk (V 5 (k4 + 1)))]) (rest := []) ⟨hx, hb, hml, hown, hts⟩ hKK (ct_X5_apart l G s.heap ((((V 6)) (k4 + 1))) ((ck_bk (V 5 (k4 + 1))))) (va_cwS 2 hts gX5_worst_X5_apart rfl rfl rfl (by decide +kernel) ⟨Nat.le_of_ble_eq_true rfl, Nat.le_of_ble_eq_true rfl⟩) rfl hl rfl (Nat.le_of_ble_eq_true rfl) dX5_worst_23 ⟨Nat.le_of_ble_eq_true rfl, Nat.le_of_ble_eq_true rfl⟩ (fun r_23 h_23 => ?_)
    subst h_23
    refine lv_topi (fun y9 ey9 => ?_)
    have ey8 : y9 = ck_dp V (k4 + 1) := ey9.trans (hI.dp (by omega))
    subst ey8
    refine lv_aload_n hx hb dX5_worst_26 rfl (lv_at hl 2 rfl) ?_
    refine ck_get (v := .ref (ad 42)) hx hb hts hinX5 hown hK hW (hM.n 30 (by decide) (by decide)) hM.f30 rfl 13 (by decide) (hts _ (List.mem_of_getElem? (i := 2) rfl)) rfl rfl dX5_worst_27 ?_
    refine lv_iload_n hx hb dX5_worst_30 rfl (lv_at hl 1 rfl) ?_
    refine ck_iald hx hb hK hW (hM.n 42 (by decide) (by decide)) hM.f42 (ck_ws V k4) (rfl) (by have := hM.nc; omega) (by decide) dX5_worst_31 ?_
    refine lv_aload_n hx hb dX5_worst_32 rfl (lv_at hl 2 rfl) ?_
    refine lv_iload_n hx hb dX5_worst_33 rfl (lv_at hl 1 rfl) ?_
    refine ck_cVi (As := [.int (nI (ck_ws V k4))]) (rest := [.int (((V 6)) (ck_ws V k4)), .int (ck_dp V (k4 + 1))]) ⟨hx, hb, hml, hown, hts⟩ hKK (ct_X5_bookedOf l G s.heap ad N F hW V L nc nr t hM (ck_ws V k4) (by have := hM.nc; have := ck_ws_le V k4; omega)) (cwV 1 hts gX5_worst_X5_bookedOf rfl rfl rfl (by decide +kernel) ⟨Nat.le_of_ble_eq_true rfl, Nat.le_of_ble_eq_true rfl⟩) (ck_recv hK hW (hM.n 30 (by decide) (by decide)) hM.f30 rfl) rfl hl rfl (Nat.le_of_ble_eq_true rfl) dX5_worst_34 ⟨Nat.le_of_ble_eq_true rfl, Nat.le_of_ble_eq_true rfl⟩ (fun r_34 h_34 => ?_)
    subst h_34
    refine ck_cSi (As := [.int (((V 6)) (ck_ws V k4)), .int (ck_bk (V 5 (ck_ws V k4)))]) (rest := [.int (ck_dp V (k4 + 1))]) ⟨hx, hb, hml, hown, hts⟩ hKK (ct_X5_apart l G s.heap ((((V 6)) (ck_ws V k4))) ((ck_bk (V 5 (ck_ws V k4))))) (va_cwS 2 hts gX5_worst_X5_apart rfl rfl rfl (by decide +kernel) ⟨Nat.le_of_ble_eq_true rfl, Nat.le_of_ble_eq_true rfl⟩) rfl hl rfl (Nat.le_of_ble_eq_true rfl) dX5_worst_37 ⟨Nat.le_of_ble_eq_true rfl, Nat.le_of_ble_eq_true rfl⟩ (fun r_37 h_37 => ?_)
    subst h_37
    refine lv_topi (fun y9 ey9 => ?_)
    have ey8 : y9 = ck_dp V (ck_ws V k4) := ey9.trans (hI.dp (by omega))
    subst ey8
    refine lv_icmp_le (tgt := 47) hx hb dX5_worst_40 (by decide) (fun c_40 => ?_) (fun c_40 => ?_)
    · skip
      refine lv_iload_n hx hb dX5_worst_47 rfl (lv_at hl 1 rfl) ?_
      refine lv_istore_n (lv' := [(1, .int (nI (ck_ws V k4))), (2, .int (nI (k4 + 1))), (0, .ref (ad 30))]) hx hb dX5_worst_48 rfl hl (by decide) rfl (fun ls hl => ?_)
      refine lv_iinc (v := nI ((k4 + 1) + 1)) (lv' := [(2, .int (nI ((k4 + 1) + 1))), (1, .int (nI (ck_ws V k4))), (0, .ref (ad 30))]) hx hb dX5_worst_49 hl (k := 1) rfl (nI_1 (k4 + 1)) (by decide) rfl (fun ls hl => ?_)
      refine lv_goto (tgt := 4) hx hb dX5_worst_52 (by decide) ?_
      have e9 : ck_ws V (k4 + 1) = ck_ws V k4 := by simp only [ck_ws]; rw [if_neg (Int32.not_lt.mpr c_40)]
      have hl : lv_has ls 3 [(2, .int (nI ((k4 + 1) + 1))), (1, .int (nI (ck_ws V (k4 + 1)))), (0, .ref (ad 30))] := by rw [e9]; exact hl
      exact ih4 ls (lv_sub hl [0, 1, 2] rfl) (trivial)
    · skip
      refine lv_iload_n hx hb dX5_worst_43 rfl (lv_at hl 0 rfl) ?_
      refine lv_goto (tgt := 48) hx hb dX5_worst_44 (by decide) ?_
      refine lv_istore_n (lv' := [(1, .int (nI (k4 + 1))), (2, .int (nI (k4 + 1))), (0, .ref (ad 30))]) hx hb dX5_worst_48 rfl hl (by decide) rfl (fun ls hl => ?_)
      refine lv_iinc (v := nI ((k4 + 1) + 1)) (lv' := [(2, .int (nI ((k4 + 1) + 1))), (1, .int (nI (k4 + 1))), (0, .ref (ad 30))]) hx hb dX5_worst_49 hl (k := 1) rfl (nI_1 (k4 + 1)) (by decide) rfl (fun ls hl => ?_)
      refine lv_goto (tgt := 4) hx hb dX5_worst_52 (by decide) ?_
      have e9 : ck_ws V (k4 + 1) = k4 + 1 := by simp only [ck_ws]; rw [if_pos (Int32.not_le.mp c_40)]
      have hl : lv_has ls 3 [(2, .int (nI ((k4 + 1) + 1))), (1, .int (nI (ck_ws V (k4 + 1)))), (0, .ref (ad 30))] := by rw [e9]; exact hl
      exact ih4 ls (lv_sub hl [0, 1, 2] rfl) (trivial)
def ck_nar (V : Nat → Nat → Int32) (nc : Nat) : Nat → Int32
  | 0 => 0
  | k + 1 => ck_dig V nc (ck_nar V nc k)
def ck_be (V : Nat → Nat → Int32) (nc : Nat) (q : Int32) (d k : Nat) : Int32 := if k = 0 then -1 else (ck_wd V nc q d k).2
def ck_dfR (V : Nat → Nat → Int32) (nc : Nat) : Prop := ∀ x, ck_rg (-1000000000) (ck_df V x nc) 1000000000
theorem ck_abs_nn {x : Int32} (h : ck_rg (-1000000000) x 1000000000) : (-1 : Int32) < ck_abs x := by
  have e : ((-1 : Int32)).toInt = -1 := rfl
  rw [fa_lt, e]
  unfold ck_abs
  by_cases c : 0 ≤ x
  · rw [if_pos c]; rw [fa_le, ck_toI0] at c; omega
  · rw [if_neg c]; rw [fa_le, ck_toI0] at c
    rw [fb_subI (by rw [ck_toI0]; have := h.1; omega) (by rw [ck_toI0]; have := h.1; omega), ck_toI0]; omega
theorem ck_wd_inv {V : Nat → Nat → Int32} {nc : Nat} (hd : ck_dfR V nc) (q : Int32) (d : Nat) : ∀ k, (ck_wd V nc q d (k + 1)).1 = ck_abs (ck_df V (ck_wd V nc q d (k + 1)).2 nc) ∧ ∃ j, j < k + 1 ∧ (ck_wd V nc q d (k + 1)).2 = q * 10 + nI (d + j)
  | 0 => by
    have h : (ck_wd V nc q d 0).1 < ck_abs (ck_df V (q * 10 + nI (d + 0)) nc) := ck_abs_nn (hd _)
    rw [ck_wd_yes h]; exact ⟨rfl, 0, by omega, rfl⟩
  | k + 1 => by
    obtain ⟨h1, j, hj, h2⟩ := ck_wd_inv hd q d k
    by_cases c : (ck_wd V nc q d (k + 1)).1 < ck_abs (ck_df V (q * 10 + nI (d + (k + 1))) nc)
    · rw [ck_wd_yes c]; exact ⟨rfl, k + 1, by omega, rfl⟩
    · rw [ck_wd_no c]; exact ⟨h1, j, by omega, h2⟩
/-- the prefix that narrow has reached behind k digits -/
theorem ck_nar_in {V : Nat → Nat → Int32} {nc : Nat} (hd : ck_dfR V nc) : ∀ k, k ≤ 5 → ∃ f : Nat, ck_nar V nc k = nI f ∧ f < 10 ^ k ∧ (0 < k → 0 < f) ∧ (k = 0 → f = 0)
  | 0, _ => ⟨0, rfl, by decide, fun h => absurd h (Nat.lt_irrefl _), fun _ => rfl⟩
  | k + 1, h => by
    obtain ⟨f, h1, h2, h3, h4⟩ := ck_nar_in hd k (by omega)
    have h5 : 10 ^ k ≤ 10 ^ 4 := Nat.pow_le_pow_right (by decide) (by omega)
    have e10 : (10 : Int32) = nI 10 := rfl
    rcases Nat.eq_zero_or_pos k with z | z
    · subst z
      have hf := h4 rfl
      subst hf
      obtain ⟨-, j, hj, e⟩ := ck_wd_inv hd (ck_nar V nc 0) 1 8
      refine ⟨1 + j, ?_, by omega, fun _ => by omega, fun h => by omega⟩
      show ck_dig V nc (ck_nar V nc 0) = _
      unfold ck_dig; rw [if_pos (show ck_nar V nc 0 = 0 from rfl), e, h1, e10, pk_mul, nI_add]; congr 1; omega
    · have hf := h3 z
      obtain ⟨-, j, hj, e⟩ := ck_wd_inv hd (ck_nar V nc k) 0 9
      refine ⟨f * 10 + (0 + j), ?_, by rw [Nat.pow_succ]; omega, fun _ => by omega, fun h => by omega⟩
      show ck_dig V nc (ck_nar V nc k) = _
      unfold ck_dig; rw [if_neg (by rw [h1]; exact nI_ne0 hf (by omega)), e, h1, e10, pk_mul, nI_add]
def ck_Rnar (V : Nat → Nat → Int32) (nc : Nat) (a0 k r : Int32) : Prop := (¬ (1 ≤ a0 ∧ a0 ≤ 5) ∧ k = 1) ∨ (∃ m, m ≤ 5 ∧ a0 = nI m ∧ 0 < m ∧ k = 0 ∧ r = ck_nar V nc m)
theorem ck_in5 {x : Int32} (h : 1 ≤ x ∧ x ≤ 5) : ∃ m, m ≤ 5 ∧ x = nI m ∧ 0 < m := by
  obtain ⟨m, h1, h2⟩ := ck_in_nI (n := 5) (Int32.le_trans (by decide) h.1) h.2 (by decide)
  refine ⟨m, h1, h2, ?_⟩
  rcases Nat.eq_zero_or_pos m with z | z
  · subst z; subst h2; exact absurd h.1 (by decide)
  · exact z
theorem ck_it0 {f j : Nat} (h : f < 10000) (hj : j < 20) : 0 ≤ (nI f * 10 + nI j).toInt := by
  rw [show (10 : Int32) = nI 10 from rfl, pk_mul, nI_add, nI_toInt (by omega)]; omega
theorem ck_nem1 {f j : Nat} (h : f < 10000) (hj : j < 20) : ¬ (nI f * 10 + nI j) = -1 := by
  rw [show (10 : Int32) = nI 10 from rfl, pk_mul, nI_add]; exact ck_m1 (by omega)
set_option maxHeartbeats 4000000 in
set_option maxRecDepth 100000 in
theorem ct_X5_narrow (l : Launch) (G : ck_G) (H : Heap) (ad : Nat → Nat) (N : Nat → Prop) (F : Nat → va_E) (hW : ck_W G ad N F H) (V : Nat → Nat → Int32) (L : Nat → Nat → Int64) (nc nr : Nat) (t : Int32) (hM : ck_M G ad V L nc nr t N F) (hI : ck_I V nc nr) (hdf : ck_dfR V nc) (a0 : Int32) : Met l yX5_narrow wsX5_narrow ({ frames := 2, cells := 0, slots := 0, locals := 45 }) (ck_P G H [.ref (ad 30), .int a0]) (ck_Qi G (fun r H1 => ∃ t1 F1, ck_Rnar V nc a0 t1 r ∧ ck_W G ad N F1 H1 ∧ ck_M G ad V L nc nr t1 N F1 ∧ ck_sM F F1)) 0 0 (ck_A G) := by
  refine Met.ofW (cc := cX5_narrow) (maxL := 7) (ret := (some .int)) (by decide) rfl ?_
  intro p e s m args below meth c s₁ B hml hv
  obtain ⟨rfl, hH, hKK⟩ := hv
  subst hH
  have hx := B.exec
  have hb := B.bytes
  have hr := B.returns
  have hts := atoms_spec (ws := wsX5_narrow) B.pre
  have hown : s.vm.findClass RX5 = some m.cls := findClass_of_methodNamed B.named
  have hlocks := B.notSynchronized
  have hKK0 := hKK
  have hK := hKK.1.1
  have hS : va_S (ck_A G) s.heap s.heap [] := va_S.rf
  have hl := lv_entry ([.ref (ad 30), .int a0]) (n := 7) (Nat.le_of_ble_eq_true rfl)
  rw [lg_entry_eq]
  generalize (lg_sl ([.ref (ad 30), .int a0]) ++ List.replicate (7 - (lg_sl ([.ref (ad 30), .int a0])).length) Slot.unset).toArray = ls at hl ⊢
  have hl : lv_has ls 7 [(0, .ref (ad 30)), (1, .int a0)] := hl
  have hsm : ck_sM F F := ck_sM.rf
  have hp7 := hI.hp7
  have hn0 := hI.hn0
  have hst := hI.hst
  refine lv_aload_n hx hb dX5_narrow_0 rfl (lv_at hl 0 rfl) ?_
  refine lv_iload_n hx hb dX5_narrow_1 rfl (lv_at hl 1 rfl) ?_
  refine lv_iconst (v := 1) hx hb dX5_narrow_2 (by decide) ?_
  refine lv_iconst (v := 5) hx hb dX5_narrow_3 (by decide) ?_
  refine ck_cSi (As := [.int a0, .int 1, .int 5]) (rest := [.ref (ad 30)]) ⟨hx, hb, hml, hown, hts⟩ hKK (ct_X5_in l G s.heap a0 1 5) (va_cwS 3 hts gX5_narrow_X5_in rfl rfl rfl (by decide +kernel) ⟨Nat.le_of_ble_eq_true rfl, Nat.le_of_ble_eq_true rfl⟩) rfl hl rfl (Nat.le_of_ble_eq_true rfl) dX5_narrow_4 ⟨Nat.le_of_ble_eq_true rfl, Nat.le_of_ble_eq_true rfl⟩ (fun r_4 h_4 => ?_)
  rcases h_4 with ⟨h_4, rfl⟩ | ⟨h_4, rfl⟩
  · skip
    refine ck_cVw (As := [.int 1]) (rest := []) ⟨hx, hb, hml, hown, hts⟩ hKK (ct_X5_asks1 l G s.heap ad N F hW V L nc nr t hM) (cwV 1 hts gX5_narrow_X5_asks rfl rfl rfl (by decide +kernel) ⟨Nat.le_of_ble_eq_true rfl, Nat.le_of_ble_eq_true rfl⟩) (ck_recv hK hW (hM.n 30 (by decide) (by decide)) hM.f30 rfl) rfl hl rfl (Nat.le_of_ble_eq_true rfl) dX5_narrow_7 ⟨Nat.le_of_ble_eq_true rfl, Nat.le_of_ble_eq_true rfl⟩ hS (fun r_7 H locs h_7 hz_7 hS => ?_)
    have hKK := hKK0.keep hS.2.1
    obtain ⟨rfl, F_7, hW, hM, hs7⟩ := h_7
    have hsm := hsm.tr hs7
    refine lv_if_ne (tgt := 15) hx hb dX5_narrow_10 (by decide) (fun _ => ?_) (fun c_10 => absurd c_10 (by decide))
    obtain ⟨m0, hm5, rfl, hm0⟩ := ck_in5 h_4
    refine lv_iconst (v := 0) hx hb dX5_narrow_15 (by decide) ?_
    refine lv_istore_n (lv' := [(2, .int 0), (0, .ref (ad 30)), (1, .int (nI m0))]) hx hb dX5_narrow_16 rfl hl (by decide) rfl (fun ls hl => ?_)
    refine lv_iconst (v := 0) hx hb dX5_narrow_17 (by decide) ?_
    refine lv_istore_n (lv' := [(3, .int 0), (2, .int 0), (0, .ref (ad 30)), (1, .int (nI m0))]) hx hb dX5_narrow_18 rfl hl (by decide) rfl (fun ls hl => ?_)
    refine ck_loop (P := fun ls => W p l e _ s m _ below meth c _ _ _ _ _ (F0 m _ ls _)) m0 (fun k => [(3, .int (nI k)), (2, .int (ck_nar V nc k)), (0, .ref (ad 30)), (1, .int (nI m0))]) (fun k => True) (lv_sub hl [0, 1, 2, 3] rfl) (trivial) ?_ ?_
    · intro ls hl hI19
      have hl : lv_has ls 7 [(3, .int (nI m0)), (2, .int (ck_nar V nc m0)), (0, .ref (ad 30)), (1, .int (nI m0))] := hl
      refine lv_iload_n hx hb dX5_narrow_19 rfl (lv_at hl 0 rfl) ?_
      refine lv_iload_n hx hb dX5_narrow_20 rfl (lv_at hl 3 rfl) ?_
      refine lv_icmp_ge (tgt := 107) hx hb dX5_narrow_21 (by decide) (fun _ => ?_) (fun c_21 => absurd (Int32.le_refl _) c_21)
      refine lv_iload_n hx hb dX5_narrow_107 rfl (lv_at hl 1 rfl) ?_
      exact W.iret (v := (ck_nar V nc m0)) hx hb hr (fun t ht hW9 => ⟨⟨_, rfl, by rw [ht]; exact ⟨_, F_7, Or.inr ⟨m0, hm5, rfl, hm0, rfl, rfl⟩, hW, hM, hsm⟩⟩, hS.F ht⟩) hS.2.2 dX5_narrow_108
    · intro k19 hk19 hI19 ih19 ls hl
      have hl : lv_has ls 7 [(3, .int (nI k19)), (2, .int (ck_nar V nc k19)), (0, .ref (ad 30)), (1, .int (nI m0))] := hl
      obtain ⟨f0, hf0, hf1, hf2, hf3⟩ := ck_nar_in hdf k19 (by omega)
      have hf4 : f0 < 10000 := by have h5 : 10 ^ k19 ≤ 10 ^ 4 := Nat.pow_le_pow_right (by decide) (by omega); omega
      refine lv_iload_n hx hb dX5_narrow_19 rfl (lv_at hl 0 rfl) ?_
      refine lv_iload_n hx hb dX5_narrow_20 rfl (lv_at hl 3 rfl) ?_
      refine lv_icmp_ge (tgt := 107) hx hb dX5_narrow_21 (by decide) (fun c_21 => absurd c_21 (nI_ge hk19 (by omega))) (fun _ => ?_)
      refine lv_iconst (v := (-1)) hx hb dX5_narrow_24 (by decide) ?_
      refine lv_istore (lv' := [(4, .int (-1)), (3, .int (nI k19)), (2, .int (ck_nar V nc k19)), (0, .ref (ad 30)), (1, .int (nI m0))]) hx hb dX5_narrow_25 hl (by decide) rfl (fun ls hl => ?_)
      refine lv_iload_n hx hb dX5_narrow_27 rfl (lv_at hl 1 rfl) ?_
      rcases Nat.eq_zero_or_pos k19 with hz19 | hz19
      · skip
        have e28 : nI k19 = 0 := by rw [hz19]; rfl
        have hq0 : ck_nar V nc k19 = 0 := by rw [hf0, hf3 hz19]; rfl
        refine lv_if_ne (tgt := 35) hx hb dX5_narrow_28 (by decide) (fun c_28 => absurd (e28) c_28) (fun _ => ?_)
        refine lv_iconst (v := 1) hx hb dX5_narrow_31 (by decide) ?_
        refine lv_goto (tgt := 36) hx hb dX5_narrow_32 (by decide) ?_
        refine lv_istore (lv' := [(5, .int 1), (4, .int (-1)), (3, .int (nI k19)), (2, .int (ck_nar V nc k19)), (0, .ref (ad 30)), (1, .int (nI m0))]) hx hb dX5_narrow_36 hl (by decide) rfl (fun ls hl => ?_)
        refine ck_loop (P := fun ls => W p l e _ s m _ below meth c _ _ _ _ _ (F0 m _ ls _)) 9 (fun k => [(5, .int (nI (1 + k))), (4, .int (ck_be V nc (ck_nar V nc k19) 1 k)), (3, .int (nI k19)), (2, .int (ck_nar V nc k19)), (0, .ref (ad 30)), (1, .int (nI m0))]) (fun k => True) (lv_sub hl [0, 1, 2, 3, 4, 5] rfl) (trivial) ?_ ?_
        · intro ls hl hI38
          have hl : lv_has ls 7 [(5, .int (nI (1 + 9))), (4, .int (ck_be V nc (ck_nar V nc k19) 1 9)), (3, .int (nI k19)), (2, .int (ck_nar V nc k19)), (0, .ref (ad 30)), (1, .int (nI m0))] := hl
          refine lv_iload hx hb dX5_narrow_38 (lv_at hl 0 rfl) ?_
          refine lv_bipush (v := 10) hx hb dX5_narrow_40 (by decide) ?_
          refine lv_icmp_ge (tgt := 98) hx hb dX5_narrow_42 (by decide) (fun _ => ?_) (fun c_42 => absurd (by decide) c_42)
          refine lv_iload hx hb dX5_narrow_98 (lv_at hl 1 rfl) ?_
          refine lv_istore_n (lv' := [(2, .int (ck_be V nc (ck_nar V nc k19) 1 9)), (5, .int (nI (1 + 9))), (4, .int (ck_be V nc (ck_nar V nc k19) 1 9)), (3, .int (nI k19)), (0, .ref (ad 30)), (1, .int (nI m0))]) hx hb dX5_narrow_100 rfl hl (by decide) rfl (fun ls hl => ?_)
          refine lv_iinc (v := nI (k19 + 1)) (lv' := [(3, .int (nI (k19 + 1))), (2, .int (ck_be V nc (ck_nar V nc k19) 1 9)), (5, .int (nI (1 + 9))), (4, .int (ck_be V nc (ck_nar V nc k19) 1 9)), (0, .ref (ad 30)), (1, .int (nI m0))]) hx hb dX5_narrow_101 hl (k := 3) rfl (nI_1 k19) (by decide) rfl (fun ls hl => ?_)
          refine lv_goto (tgt := 19) hx hb dX5_narrow_104 (by decide) ?_
          have e9 : ck_nar V nc (k19 + 1) = ck_be V nc (ck_nar V nc k19) 1 9 := by
            show ck_dig V nc (ck_nar V nc k19) = _
            unfold ck_dig; rw [if_pos hq0]; rfl
          have hl : lv_has ls 7 [(3, .int (nI (k19 + 1))), (2, .int (ck_nar V nc (k19 + 1))), (5, .int (nI (1 + 9))), (4, .int (ck_be V nc (ck_nar V nc k19) 1 9)), (0, .ref (ad 30)), (1, .int (nI m0))] := by rw [e9]; exact hl
          exact ih19 ls (lv_sub hl [0, 1, 4, 5] rfl) (trivial)
        · intro k38 hk38 hI38 ih38 ls hl
          have hl : lv_has ls 7 [(5, .int (nI (1 + k38))), (4, .int (ck_be V nc (ck_nar V nc k19) 1 k38)), (3, .int (nI k19)), (2, .int (ck_nar V nc k19)), (0, .ref (ad 30)), (1, .int (nI m0))] := hl
          refine lv_iload hx hb dX5_narrow_38 (lv_at hl 0 rfl) ?_
          refine lv_bipush (v := 10) hx hb dX5_narrow_40 (by decide) ?_
          refine lv_icmp_ge (tgt := 98) hx hb dX5_narrow_42 (by decide) (fun c_42 => absurd c_42 (nI_ge (a := 1 + k38) (b := 10) (by omega) (by decide))) (fun _ => ?_)
          refine lv_bipush (v := 10) hx hb dX5_narrow_45 (by decide) ?_
          refine lv_iload_n hx hb dX5_narrow_47 rfl (lv_at hl 3 rfl) ?_
          refine lv_imul hx hb dX5_narrow_48 ?_
          refine lv_iload hx hb dX5_narrow_49 (lv_at hl 0 rfl) ?_
          refine lv_iadd hx hb dX5_narrow_51 ?_
          refine lv_topi (fun y9 ey9 => ?_)
          have ey8 : y9 = (ck_nar V nc k19) * 10 + nI (1 + k38) := ey9.trans (by rw [Int32.mul_comm])
          subst ey8
          refine lv_istore (lv' := [(6, .int ((ck_nar V nc k19) * 10 + nI (1 + k38))), (5, .int (nI (1 + k38))), (4, .int (ck_be V nc (ck_nar V nc k19) 1 k38)), (3, .int (nI k19)), (2, .int (ck_nar V nc k19)), (0, .ref (ad 30)), (1, .int (nI m0))]) hx hb dX5_narrow_52 hl (by decide) rfl (fun ls hl => ?_)
          rcases k38 with _ | k38
          · skip
            have hl : lv_has ls 7 [(6, .int ((ck_nar V nc k19) * 10 + nI (1 + 0))), (5, .int (nI (1 + 0))), (4, .int (-1)), (3, .int (nI k19)), (2, .int (ck_nar V nc k19)), (0, .ref (ad 30)), (1, .int (nI m0))] := hl
            refine lv_iload hx hb dX5_narrow_54 (lv_at hl 2 rfl) ?_
            refine lv_iconst (v := (-1)) hx hb dX5_narrow_56 (by decide) ?_
            refine lv_icmp_eq (tgt := 83) hx hb dX5_narrow_57 (by decide) (fun _ => ?_) (fun c_57 => absurd (by decide) c_57)
            refine lv_iload hx hb dX5_narrow_83 (lv_at hl 0 rfl) ?_
            refine lv_goto (tgt := 90) hx hb dX5_narrow_85 (by decide) ?_
            refine lv_istore (lv' := [(4, .int ((ck_nar V nc k19) * 10 + nI (1 + 0))), (6, .int ((ck_nar V nc k19) * 10 + nI (1 + 0))), (5, .int (nI (1 + 0))), (3, .int (nI k19)), (2, .int (ck_nar V nc k19)), (0, .ref (ad 30)), (1, .int (nI m0))]) hx hb dX5_narrow_90 hl (by decide) rfl (fun ls hl => ?_)
            refine lv_iinc (v := nI ((1 + 0) + 1)) (lv' := [(5, .int (nI ((1 + 0) + 1))), (4, .int ((ck_nar V nc k19) * 10 + nI (1 + 0))), (6, .int ((ck_nar V nc k19) * 10 + nI (1 + 0))), (3, .int (nI k19)), (2, .int (ck_nar V nc k19)), (0, .ref (ad 30)), (1, .int (nI m0))]) hx hb dX5_narrow_92 hl (k := 2) rfl (nI_1 (1 + 0)) (by decide) rfl (fun ls hl => ?_)
            refine lv_goto (tgt := 38) hx hb dX5_narrow_95 (by decide) ?_
            have e9 : ck_be V nc (ck_nar V nc k19) 1 (0 + 1) = (ck_nar V nc k19) * 10 + nI (1 + 0) := by
              show (ck_wd V nc (ck_nar V nc k19) 1 (0 + 1)).2 = _
              rw [ck_wd_yes (V := V) (nc := nc) (q := (ck_nar V nc k19)) (d := 1) (k := 0) (ck_abs_nn (hdf _))]
            have hl : lv_has ls 7 [(5, .int (nI (1 + (0 + 1)))), (4, .int (ck_be V nc (ck_nar V nc k19) 1 (0 + 1))), (6, .int ((ck_nar V nc k19) * 10 + nI (1 + 0))), (3, .int (nI k19)), (2, .int (ck_nar V nc k19)), (0, .ref (ad 30)), (1, .int (nI m0))] := by rw [e9]; exact hl
            exact ih38 ls (lv_sub hl [0, 1, 3, 4, 5, 6] rfl) (trivial)
          · skip
            have hl : lv_has ls 7 [(6, .int ((ck_nar V nc k19) * 10 + nI (1 + (k38 + 1)))), (5, .int (nI (1 + (k38 + 1)))), (4, .int (ck_wd V nc (ck_nar V nc k19) 1 (k38 + 1)).2), (3, .int (nI k19)), (2, .int (ck_nar V nc k19)), (0, .ref (ad 30)), (1, .int (nI m0))] := hl
            obtain ⟨hw1, jw, hjw, hw2⟩ := ck_wd_inv hdf (ck_nar V nc k19) 1 k38
            refine lv_iload hx hb dX5_narrow_54 (lv_at hl 2 rfl) ?_
            refine lv_iconst (v := (-1)) hx hb dX5_narrow_56 (by decide) ?_
            refine lv_icmp_eq (tgt := 83) hx hb dX5_narrow_57 (by decide) (fun c_57 => absurd c_57 (by rw [hw2, hf0]; exact ck_nem1 hf4 (by omega))) (fun _ => ?_)
            refine lv_aload_n hx hb dX5_narrow_60 rfl (lv_at hl 5 rfl) ?_
            refine lv_iload hx hb dX5_narrow_61 (lv_at hl 0 rfl) ?_
            refine ck_cVi (As := [.int ((ck_nar V nc k19) * 10 + nI (1 + (k38 + 1)))]) (rest := []) ⟨hx, hb, hml, hown, hts⟩ hKK (ct_X5_differs l G H ad N F_7 hW V L nc nr 0 hM (((ck_nar V nc k19) * 10 + nI (1 + (k38 + 1)))) (by rw [hf0]; exact ck_it0 hf4 (by omega)) hn0) (cwV 1 hts gX5_narrow_X5_differs rfl rfl rfl (by decide +kernel) ⟨Nat.le_of_ble_eq_true rfl, Nat.le_of_ble_eq_true rfl⟩) (ck_recv hK hW (hM.n 30 (by decide) (by decide)) hM.f30 rfl) rfl hl rfl (Nat.le_of_ble_eq_true rfl) dX5_narrow_63 ⟨Nat.le_of_ble_eq_true rfl, Nat.le_of_ble_eq_true rfl⟩ (fun r_63 h_63 => ?_)
            subst h_63
            refine lv_iconst (v := 0) hx hb dX5_narrow_66 (by decide) ?_
            refine ck_cSi (As := [.int (ck_df V (((ck_nar V nc k19) * 10 + nI (1 + (k38 + 1)))) nc), .int 0]) (rest := []) ⟨hx, hb, hml, hown, hts⟩ hKK (ct_X5_apart l G H ((ck_df V (((ck_nar V nc k19) * 10 + nI (1 + (k38 + 1)))) nc)) 0) (va_cwS 2 hts gX5_narrow_X5_apart rfl rfl rfl (by decide +kernel) ⟨Nat.le_of_ble_eq_true rfl, Nat.le_of_ble_eq_true rfl⟩) rfl hl rfl (Nat.le_of_ble_eq_true rfl) dX5_narrow_67 ⟨Nat.le_of_ble_eq_true rfl, Nat.le_of_ble_eq_true rfl⟩ (fun r_67 h_67 => ?_)
            subst h_67
            refine lv_topi (fun y9 ey9 => ?_)
            have ey8 : y9 = ck_abs (ck_df V ((ck_nar V nc k19) * 10 + nI (1 + (k38 + 1))) nc) := ey9.trans (ck_ap0 _)
            subst ey8
            refine lv_aload_n hx hb dX5_narrow_70 rfl (lv_at hl 5 rfl) ?_
            refine lv_iload hx hb dX5_narrow_71 (lv_at hl 2 rfl) ?_
            refine ck_cVi (As := [.int (ck_wd V nc (ck_nar V nc k19) 1 (k38 + 1)).2]) (rest := [.int (ck_abs (ck_df V ((ck_nar V nc k19) * 10 + nI (1 + (k38 + 1))) nc))]) ⟨hx, hb, hml, hown, hts⟩ hKK (ct_X5_differs l G H ad N F_7 hW V L nc nr 0 hM ((ck_wd V nc (ck_nar V nc k19) 1 (k38 + 1)).2) (by rw [hw2, hf0]; exact ck_it0 hf4 (by omega)) hn0) (cwV 1 hts gX5_narrow_X5_differs rfl rfl rfl (by decide +kernel) ⟨Nat.le_of_ble_eq_true rfl, Nat.le_of_ble_eq_true rfl⟩) (ck_recv hK hW (hM.n 30 (by decide) (by decide)) hM.f30 rfl) rfl hl rfl (Nat.le_of_ble_eq_true rfl) dX5_narrow_73 ⟨Nat.le_of_ble_eq_true rfl, Nat.le_of_ble_eq_true rfl⟩ (fun r_73 h_73 => ?_)
            subst h_73
            refine lv_iconst (v := 0) hx hb dX5_narrow_76 (by decide) ?_
            refine ck_cSi (As := [.int (ck_df V ((ck_wd V nc (ck_nar V nc k19) 1 (k38 + 1)).2) nc), .int 0]) (rest := [.int (ck_abs (ck_df V ((ck_nar V nc k19) * 10 + nI (1 + (k38 + 1))) nc))]) ⟨hx, hb, hml, hown, hts⟩ hKK (ct_X5_apart l G H ((ck_df V ((ck_wd V nc (ck_nar V nc k19) 1 (k38 + 1)).2) nc)) 0) (va_cwS 2 hts gX5_narrow_X5_apart rfl rfl rfl (by decide +kernel) ⟨Nat.le_of_ble_eq_true rfl, Nat.le_of_ble_eq_true rfl⟩) rfl hl rfl (Nat.le_of_ble_eq_true rfl) dX5_narrow_77 ⟨Nat.le_of_ble_eq_true rfl, Nat.le_of_ble_eq_true rfl⟩ (fun r_77 h_77 => ?_)
            subst h_77
            refine lv_topi (fun y9 ey9 => ?_)
            have ey8 : y9 = (ck_wd V nc (ck_nar V nc k19) 1 (k38 + 1)).1 := ey9.trans ((ck_ap0 _).trans hw1.symm)
            subst ey8
            refine lv_icmp_le (tgt := 88) hx hb dX5_narrow_80 (by decide) (fun c_80 => ?_) (fun c_80 => ?_)
            · skip
              refine lv_iload hx hb dX5_narrow_88 (lv_at hl 2 rfl) ?_
              refine lv_istore (lv' := [(4, .int (ck_wd V nc (ck_nar V nc k19) 1 (k38 + 1)).2), (6, .int ((ck_nar V nc k19) * 10 + nI (1 + (k38 + 1)))), (5, .int (nI (1 + (k38 + 1)))), (3, .int (nI k19)), (2, .int (ck_nar V nc k19)), (0, .ref (ad 30)), (1, .int (nI m0))]) hx hb dX5_narrow_90 hl (by decide) rfl (fun ls hl => ?_)
              refine lv_iinc (v := nI ((1 + (k38 + 1)) + 1)) (lv' := [(5, .int (nI ((1 + (k38 + 1)) + 1))), (4, .int (ck_wd V nc (ck_nar V nc k19) 1 (k38 + 1)).2), (6, .int ((ck_nar V nc k19) * 10 + nI (1 + (k38 + 1)))), (3, .int (nI k19)), (2, .int (ck_nar V nc k19)), (0, .ref (ad 30)), (1, .int (nI m0))]) hx hb dX5_narrow_92 hl (k := 2) rfl (nI_1 (1 + (k38 + 1))) (by decide) rfl (fun ls hl => ?_)
              refine lv_goto (tgt := 38) hx hb dX5_narrow_95 (by decide) ?_
              have e9 : ck_be V nc (ck_nar V nc k19) 1 (k38 + 1 + 1) = (ck_wd V nc (ck_nar V nc k19) 1 (k38 + 1)).2 := by
                show (ck_wd V nc (ck_nar V nc k19) 1 (k38 + 1 + 1)).2 = _
                rw [ck_wd_no (Int32.not_lt.mpr c_80)]
              have hl : lv_has ls 7 [(5, .int (nI (1 + (k38 + 1 + 1)))), (4, .int (ck_be V nc (ck_nar V nc k19) 1 (k38 + 1 + 1))), (6, .int ((ck_nar V nc k19) * 10 + nI (1 + (k38 + 1)))), (3, .int (nI k19)), (2, .int (ck_nar V nc k19)), (0, .ref (ad 30)), (1, .int (nI m0))] := by rw [e9]; exact hl
              exact ih38 ls (lv_sub hl [0, 1, 3, 4, 5, 6] rfl) (trivial)
            · skip
              refine lv_iload hx hb dX5_narrow_83 (lv_at hl 0 rfl) ?_
              refine lv_goto (tgt := 90) hx hb dX5_narrow_85 (by decide) ?_
              refine lv_istore (lv' := [(4, .int ((ck_nar V nc k19) * 10 + nI (1 + (k38 + 1)))), (6, .int ((ck_nar V nc k19) * 10 + nI (1 + (k38 + 1)))), (5, .int (nI (1 + (k38 + 1)))), (3, .int (nI k19)), (2, .int (ck_nar V nc k19)), (0, .ref (ad 30)), (1, .int (nI m0))]) hx hb dX5_narrow_90 hl (by decide) rfl (fun ls hl => ?_)
              refine lv_iinc (v := nI ((1 + (k38 + 1)) + 1)) (lv' := [(5, .int (nI ((1 + (k38 + 1)) + 1))), (4, .int ((ck_nar V nc k19) * 10 + nI (1 + (k38 + 1)))), (6, .int ((ck_nar V nc k19) * 10 + nI (1 + (k38 + 1)))), (3, .int (nI k19)), (2, .int (ck_nar V nc k19)), (0, .ref (ad 30)), (1, .int (nI m0))]) hx hb dX5_narrow_92 hl (k := 2) rfl (nI_1 (1 + (k38 + 1))) (by decide) rfl (fun ls hl => ?_)
              refine lv_goto (tgt := 38) hx hb dX5_narrow_95 (by decide) ?_
              have e9 : ck_be V nc (ck_nar V nc k19) 1 (k38 + 1 + 1) = (ck_nar V nc k19) * 10 + nI (1 + (k38 + 1)) := by
                show (ck_wd V nc (ck_nar V nc k19) 1 (k38 + 1 + 1)).2 = _
                rw [ck_wd_yes (Int32.not_le.mp c_80)]
              have hl : lv_has ls 7 [(5, .int (nI (1 + (k38 + 1 + 1)))), (4, .int (ck_be V nc (ck_nar V nc k19) 1 (k38 + 1 + 1))), (6, .int ((ck_nar V nc k19) * 10 + nI (1 + (k38 + 1)))), (3, .int (nI k19)), (2, .int (ck_nar V nc k19)), (0, .ref (ad 30)), (1, .int (nI m0))] := by rw [e9]; exact hl
              exact ih38 ls (lv_sub hl [0, 1, 3, 4, 5, 6] rfl) (trivial)
      · skip
        have e28 : ¬ nI k19 = 0 := nI_ne0 hz19 (by omega)
        have hq0 : ¬ ck_nar V nc k19 = 0 := by rw [hf0]; exact nI_ne0 (hf2 hz19) (by omega)
        refine lv_if_ne (tgt := 35) hx hb dX5_narrow_28 (by decide) (fun _ => ?_) (fun c_28 => absurd c_28 (e28))
        refine lv_iconst (v := 0) hx hb dX5_narrow_35 (by decide) ?_
        refine lv_istore (lv' := [(5, .int 0), (4, .int (-1)), (3, .int (nI k19)), (2, .int (ck_nar V nc k19)), (0, .ref (ad 30)), (1, .int (nI m0))]) hx hb dX5_narrow_36 hl (by decide) rfl (fun ls hl => ?_)
        refine ck_loop (P := fun ls => W p l e _ s m _ below meth c _ _ _ _ _ (F0 m _ ls _)) 10 (fun k => [(5, .int (nI (0 + k))), (4, .int (ck_be V nc (ck_nar V nc k19) 0 k)), (3, .int (nI k19)), (2, .int (ck_nar V nc k19)), (0, .ref (ad 30)), (1, .int (nI m0))]) (fun k => True) (lv_sub hl [0, 1, 2, 3, 4, 5] rfl) (trivial) ?_ ?_
        · intro ls hl hI38
          have hl : lv_has ls 7 [(5, .int (nI (0 + 10))), (4, .int (ck_be V nc (ck_nar V nc k19) 0 10)), (3, .int (nI k19)), (2, .int (ck_nar V nc k19)), (0, .ref (ad 30)), (1, .int (nI m0))] := hl
          refine lv_iload hx hb dX5_narrow_38 (lv_at hl 0 rfl) ?_
          refine lv_bipush (v := 10) hx hb dX5_narrow_40 (by decide) ?_
          refine lv_icmp_ge (tgt := 98) hx hb dX5_narrow_42 (by decide) (fun _ => ?_) (fun c_42 => absurd (by decide) c_42)
          refine lv_iload hx hb dX5_narrow_98 (lv_at hl 1 rfl) ?_
          refine lv_istore_n (lv' := [(2, .int (ck_be V nc (ck_nar V nc k19) 0 10)), (5, .int (nI (0 + 10))), (4, .int (ck_be V nc (ck_nar V nc k19) 0 10)), (3, .int (nI k19)), (0, .ref (ad 30)), (1, .int (nI m0))]) hx hb dX5_narrow_100 rfl hl (by decide) rfl (fun ls hl => ?_)
          refine lv_iinc (v := nI (k19 + 1)) (lv' := [(3, .int (nI (k19 + 1))), (2, .int (ck_be V nc (ck_nar V nc k19) 0 10)), (5, .int (nI (0 + 10))), (4, .int (ck_be V nc (ck_nar V nc k19) 0 10)), (0, .ref (ad 30)), (1, .int (nI m0))]) hx hb dX5_narrow_101 hl (k := 3) rfl (nI_1 k19) (by decide) rfl (fun ls hl => ?_)
          refine lv_goto (tgt := 19) hx hb dX5_narrow_104 (by decide) ?_
          have e9 : ck_nar V nc (k19 + 1) = ck_be V nc (ck_nar V nc k19) 0 10 := by
            show ck_dig V nc (ck_nar V nc k19) = _
            unfold ck_dig; rw [if_neg hq0]; rfl
          have hl : lv_has ls 7 [(3, .int (nI (k19 + 1))), (2, .int (ck_nar V nc (k19 + 1))), (5, .int (nI (0 + 10))), (4, .int (ck_be V nc (ck_nar V nc k19) 0 10)), (0, .ref (ad 30)), (1, .int (nI m0))] := by rw [e9]; exact hl
          exact ih19 ls (lv_sub hl [0, 1, 4, 5] rfl) (trivial)
        · intro k38 hk38 hI38 ih38 ls hl
          have hl : lv_has ls 7 [(5, .int (nI (0 + k38))), (4, .int (ck_be V nc (ck_nar V nc k19) 0 k38)), (3, .int (nI k19)), (2, .int (ck_nar V nc k19)), (0, .ref (ad 30)), (1, .int (nI m0))] := hl
          refine lv_iload hx hb dX5_narrow_38 (lv_at hl 0 rfl) ?_
          refine lv_bipush (v := 10) hx hb dX5_narrow_40 (by decide) ?_
          refine lv_icmp_ge (tgt := 98) hx hb dX5_narrow_42 (by decide) (fun c_42 => absurd c_42 (nI_ge (a := 0 + k38) (b := 10) (by omega) (by decide))) (fun _ => ?_)
          refine lv_bipush (v := 10) hx hb dX5_narrow_45 (by decide) ?_
          refine lv_iload_n hx hb dX5_narrow_47 rfl (lv_at hl 3 rfl) ?_
          refine lv_imul hx hb dX5_narrow_48 ?_
          refine lv_iload hx hb dX5_narrow_49 (lv_at hl 0 rfl) ?_
          refine lv_iadd hx hb dX5_narrow_51 ?_
          refine lv_topi (fun y9 ey9 => ?_)
          have ey8 : y9 = (ck_nar V nc k19) * 10 + nI (0 + k38) := ey9.trans (by rw [Int32.mul_comm])
          subst ey8
          refine lv_istore (lv' := [(6, .int ((ck_nar V nc k19) * 10 + nI (0 + k38))), (5, .int (nI (0 + k38))), (4, .int (ck_be V nc (ck_nar V nc k19) 0 k38)), (3, .int (nI k19)), (2, .int (ck_nar V nc k19)), (0, .ref (ad 30)), (1, .int (nI m0))]) hx hb dX5_narrow_52 hl (by decide) rfl (fun ls hl => ?_)
          rcases k38 with _ | k38
          · skip
            have hl : lv_has ls 7 [(6, .int ((ck_nar V nc k19) * 10 + nI (0 + 0))), (5, .int (nI (0 + 0))), (4, .int (-1)), (3, .int (nI k19)), (2, .int (ck_nar V nc k19)), (0, .ref (ad 30)), (1, .int (nI m0))] := hl
            refine lv_iload hx hb dX5_narrow_54 (lv_at hl 2 rfl) ?_
            refine lv_iconst (v := (-1)) hx hb dX5_narrow_56 (by decide) ?_
            refine lv_icmp_eq (tgt := 83) hx hb dX5_narrow_57 (by decide) (fun _ => ?_) (fun c_57 => absurd (by decide) c_57)
            refine lv_iload hx hb dX5_narrow_83 (lv_at hl 0 rfl) ?_
            refine lv_goto (tgt := 90) hx hb dX5_narrow_85 (by decide) ?_
            refine lv_istore (lv' := [(4, .int ((ck_nar V nc k19) * 10 + nI (0 + 0))), (6, .int ((ck_nar V nc k19) * 10 + nI (0 + 0))), (5, .int (nI (0 + 0))), (3, .int (nI k19)), (2, .int (ck_nar V nc k19)), (0, .ref (ad 30)), (1, .int (nI m0))]) hx hb dX5_narrow_90 hl (by decide) rfl (fun ls hl => ?_)
            refine lv_iinc (v := nI ((0 + 0) + 1)) (lv' := [(5, .int (nI ((0 + 0) + 1))), (4, .int ((ck_nar V nc k19) * 10 + nI (0 + 0))), (6, .int ((ck_nar V nc k19) * 10 + nI (0 + 0))), (3, .int (nI k19)), (2, .int (ck_nar V nc k19)), (0, .ref (ad 30)), (1, .int (nI m0))]) hx hb dX5_narrow_92 hl (k := 2) rfl (nI_1 (0 + 0)) (by decide) rfl (fun ls hl => ?_)
            refine lv_goto (tgt := 38) hx hb dX5_narrow_95 (by decide) ?_
            have e9 : ck_be V nc (ck_nar V nc k19) 0 (0 + 1) = (ck_nar V nc k19) * 10 + nI (0 + 0) := by
              show (ck_wd V nc (ck_nar V nc k19) 0 (0 + 1)).2 = _
              rw [ck_wd_yes (V := V) (nc := nc) (q := (ck_nar V nc k19)) (d := 0) (k := 0) (ck_abs_nn (hdf _))]
            have hl : lv_has ls 7 [(5, .int (nI (0 + (0 + 1)))), (4, .int (ck_be V nc (ck_nar V nc k19) 0 (0 + 1))), (6, .int ((ck_nar V nc k19) * 10 + nI (0 + 0))), (3, .int (nI k19)), (2, .int (ck_nar V nc k19)), (0, .ref (ad 30)), (1, .int (nI m0))] := by rw [e9]; exact hl
            exact ih38 ls (lv_sub hl [0, 1, 3, 4, 5, 6] rfl) (trivial)
          · skip
            have hl : lv_has ls 7 [(6, .int ((ck_nar V nc k19) * 10 + nI (0 + (k38 + 1)))), (5, .int (nI (0 + (k38 + 1)))), (4, .int (ck_wd V nc (ck_nar V nc k19) 0 (k38 + 1)).2), (3, .int (nI k19)), (2, .int (ck_nar V nc k19)), (0, .ref (ad 30)), (1, .int (nI m0))] := hl
            obtain ⟨hw1, jw, hjw, hw2⟩ := ck_wd_inv hdf (ck_nar V nc k19) 0 k38
            refine lv_iload hx hb dX5_narrow_54 (lv_at hl 2 rfl) ?_
            refine lv_iconst (v := (-1)) hx hb dX5_narrow_56 (by decide) ?_
            refine lv_icmp_eq (tgt := 83) hx hb dX5_narrow_57 (by decide) (fun c_57 => absurd c_57 (by rw [hw2, hf0]; exact ck_nem1 hf4 (by omega))) (fun _ => ?_)
            refine lv_aload_n hx hb dX5_narrow_60 rfl (lv_at hl 5 rfl) ?_
            refine lv_iload hx hb dX5_narrow_61 (lv_at hl 0 rfl) ?_
            refine ck_cVi (As := [.int ((ck_nar V nc k19) * 10 + nI (0 + (k38 + 1)))]) (rest := []) ⟨hx, hb, hml, hown, hts⟩ hKK (ct_X5_differs l G H ad N F_7 hW V L nc nr 0 hM (((ck_nar V nc k19) * 10 + nI (0 + (k38 + 1)))) (by rw [hf0]; exact ck_it0 hf4 (by omega)) hn0) (cwV 1 hts gX5_narrow_X5_differs rfl rfl rfl (by decide +kernel) ⟨Nat.le_of_ble_eq_true rfl, Nat.le_of_ble_eq_true rfl⟩) (ck_recv hK hW (hM.n 30 (by decide) (by decide)) hM.f30 rfl) rfl hl rfl (Nat.le_of_ble_eq_true rfl) dX5_narrow_63 ⟨Nat.le_of_ble_eq_true rfl, Nat.le_of_ble_eq_true rfl⟩ (fun r_63 h_63 => ?_)
            subst h_63
            refine lv_iconst (v := 0) hx hb dX5_narrow_66 (by decide) ?_
            refine ck_cSi (As := [.int (ck_df V (((ck_nar V nc k19) * 10 + nI (0 + (k38 + 1)))) nc), .int 0]) (rest := []) ⟨hx, hb, hml, hown, hts⟩ hKK (ct_X5_apart l G H ((ck_df V (((ck_nar V nc k19) * 10 + nI (0 + (k38 + 1)))) nc)) 0) (va_cwS 2 hts gX5_narrow_X5_apart rfl rfl rfl (by decide +kernel) ⟨Nat.le_of_ble_eq_true rfl, Nat.le_of_ble_eq_true rfl⟩) rfl hl rfl (Nat.le_of_ble_eq_true rfl) dX5_narrow_67 ⟨Nat.le_of_ble_eq_true rfl, Nat.le_of_ble_eq_true rfl⟩ (fun r_67 h_67 => ?_)
            subst h_67
            refine lv_topi (fun y9 ey9 => ?_)
            have ey8 : y9 = ck_abs (ck_df V ((ck_nar V nc k19) * 10 + nI (0 + (k38 + 1))) nc) := ey9.trans (ck_ap0 _)
            subst ey8
            refine lv_aload_n hx hb dX5_narrow_70 rfl (lv_at hl 5 rfl) ?_
            refine lv_iload hx hb dX5_narrow_71 (lv_at hl 2 rfl) ?_
            refine ck_cVi (As := [.int (ck_wd V nc (ck_nar V nc k19) 0 (k38 + 1)).2]) (rest := [.int (ck_abs (ck_df V ((ck_nar V nc k19) * 10 + nI (0 + (k38 + 1))) nc))]) ⟨hx, hb, hml, hown, hts⟩ hKK (ct_X5_differs l G H ad N F_7 hW V L nc nr 0 hM ((ck_wd V nc (ck_nar V nc k19) 0 (k38 + 1)).2) (by rw [hw2, hf0]; exact ck_it0 hf4 (by omega)) hn0) (cwV 1 hts gX5_narrow_X5_differs rfl rfl rfl (by decide +kernel) ⟨Nat.le_of_ble_eq_true rfl, Nat.le_of_ble_eq_true rfl⟩) (ck_recv hK hW (hM.n 30 (by decide) (by decide)) hM.f30 rfl) rfl hl rfl (Nat.le_of_ble_eq_true rfl) dX5_narrow_73 ⟨Nat.le_of_ble_eq_true rfl, Nat.le_of_ble_eq_true rfl⟩ (fun r_73 h_73 => ?_)
            subst h_73
            refine lv_iconst (v := 0) hx hb dX5_narrow_76 (by decide) ?_
            refine ck_cSi (As := [.int (ck_df V ((ck_wd V nc (ck_nar V nc k19) 0 (k38 + 1)).2) nc), .int 0]) (rest := [.int (ck_abs (ck_df V ((ck_nar V nc k19) * 10 + nI (0 + (k38 + 1))) nc))]) ⟨hx, hb, hml, hown, hts⟩ hKK (ct_X5_apart l G H ((ck_df V ((ck_wd V nc (ck_nar V nc k19) 0 (k38 + 1)).2) nc)) 0) (va_cwS 2 hts gX5_narrow_X5_apart rfl rfl rfl (by decide +kernel) ⟨Nat.le_of_ble_eq_true rfl, Nat.le_of_ble_eq_true rfl⟩) rfl hl rfl (Nat.le_of_ble_eq_true rfl) dX5_narrow_77 ⟨Nat.le_of_ble_eq_true rfl, Nat.le_of_ble_eq_true rfl⟩ (fun r_77 h_77 => ?_)
            subst h_77
            refine lv_topi (fun y9 ey9 => ?_)
            have ey8 : y9 = (ck_wd V nc (ck_nar V nc k19) 0 (k38 + 1)).1 := ey9.trans ((ck_ap0 _).trans hw1.symm)
            subst ey8
            refine lv_icmp_le (tgt := 88) hx hb dX5_narrow_80 (by decide) (fun c_80 => ?_) (fun c_80 => ?_)
            · skip
              refine lv_iload hx hb dX5_narrow_88 (lv_at hl 2 rfl) ?_
              refine lv_istore (lv' := [(4, .int (ck_wd V nc (ck_nar V nc k19) 0 (k38 + 1)).2), (6, .int ((ck_nar V nc k19) * 10 + nI (0 + (k38 + 1)))), (5, .int (nI (0 + (k38 + 1)))), (3, .int (nI k19)), (2, .int (ck_nar V nc k19)), (0, .ref (ad 30)), (1, .int (nI m0))]) hx hb dX5_narrow_90 hl (by decide) rfl (fun ls hl => ?_)
              refine lv_iinc (v := nI ((0 + (k38 + 1)) + 1)) (lv' := [(5, .int (nI ((0 + (k38 + 1)) + 1))), (4, .int (ck_wd V nc (ck_nar V nc k19) 0 (k38 + 1)).2), (6, .int ((ck_nar V nc k19) * 10 + nI (0 + (k38 + 1)))), (3, .int (nI k19)), (2, .int (ck_nar V nc k19)), (0, .ref (ad 30)), (1, .int (nI m0))]) hx hb dX5_narrow_92 hl (k := 2) rfl (nI_1 (0 + (k38 + 1))) (by decide) rfl (fun ls hl => ?_)
              refine lv_goto (tgt := 38) hx hb dX5_narrow_95 (by decide) ?_
              have e9 : ck_be V nc (ck_nar V nc k19) 0 (k38 + 1 + 1) = (ck_wd V nc (ck_nar V nc k19) 0 (k38 + 1)).2 := by
                show (ck_wd V nc (ck_nar V nc k19) 0 (k38 + 1 + 1)).2 = _
                rw [ck_wd_no (Int32.not_lt.mpr c_80)]
              have hl : lv_has ls 7 [(5, .int (nI (0 + (k38 + 1 + 1)))), (4, .int (ck_be V nc (ck_nar V nc k19) 0 (k38 + 1 + 1))), (6, .int ((ck_nar V nc k19) * 10 + nI (0 + (k38 + 1)))), (3, .int (nI k19)), (2, .int (ck_nar V nc k19)), (0, .ref (ad 30)), (1, .int (nI m0))] := by rw [e9]; exact hl
              exact ih38 ls (lv_sub hl [0, 1, 3, 4, 5, 6] rfl) (trivial)
            · skip
              refine lv_iload hx hb dX5_narrow_83 (lv_at hl 0 rfl) ?_
              refine lv_goto (tgt := 90) hx hb dX5_narrow_85 (by decide) ?_
              refine lv_istore (lv' := [(4, .int ((ck_nar V nc k19) * 10 + nI (0 + (k38 + 1)))), (6, .int ((ck_nar V nc k19) * 10 + nI (0 + (k38 + 1)))), (5, .int (nI (0 + (k38 + 1)))), (3, .int (nI k19)), (2, .int (ck_nar V nc k19)), (0, .ref (ad 30)), (1, .int (nI m0))]) hx hb dX5_narrow_90 hl (by decide) rfl (fun ls hl => ?_)
              refine lv_iinc (v := nI ((0 + (k38 + 1)) + 1)) (lv' := [(5, .int (nI ((0 + (k38 + 1)) + 1))), (4, .int ((ck_nar V nc k19) * 10 + nI (0 + (k38 + 1)))), (6, .int ((ck_nar V nc k19) * 10 + nI (0 + (k38 + 1)))), (3, .int (nI k19)), (2, .int (ck_nar V nc k19)), (0, .ref (ad 30)), (1, .int (nI m0))]) hx hb dX5_narrow_92 hl (k := 2) rfl (nI_1 (0 + (k38 + 1))) (by decide) rfl (fun ls hl => ?_)
              refine lv_goto (tgt := 38) hx hb dX5_narrow_95 (by decide) ?_
              have e9 : ck_be V nc (ck_nar V nc k19) 0 (k38 + 1 + 1) = (ck_nar V nc k19) * 10 + nI (0 + (k38 + 1)) := by
                show (ck_wd V nc (ck_nar V nc k19) 0 (k38 + 1 + 1)).2 = _
                rw [ck_wd_yes (Int32.not_le.mp c_80)]
              have hl : lv_has ls 7 [(5, .int (nI (0 + (k38 + 1 + 1)))), (4, .int (ck_be V nc (ck_nar V nc k19) 0 (k38 + 1 + 1))), (6, .int ((ck_nar V nc k19) * 10 + nI (0 + (k38 + 1)))), (3, .int (nI k19)), (2, .int (ck_nar V nc k19)), (0, .ref (ad 30)), (1, .int (nI m0))] := by rw [e9]; exact hl
              exact ih38 ls (lv_sub hl [0, 1, 3, 4, 5, 6] rfl) (trivial)
  · skip
    refine ck_cVw (As := [.int 0]) (rest := []) ⟨hx, hb, hml, hown, hts⟩ hKK (ct_X5_asks0 l G s.heap ad N F hW V L nc nr t hM) (cwV 1 hts gX5_narrow_X5_asks rfl rfl rfl (by decide +kernel) ⟨Nat.le_of_ble_eq_true rfl, Nat.le_of_ble_eq_true rfl⟩) (ck_recv hK hW (hM.n 30 (by decide) (by decide)) hM.f30 rfl) rfl hl rfl (Nat.le_of_ble_eq_true rfl) dX5_narrow_7 ⟨Nat.le_of_ble_eq_true rfl, Nat.le_of_ble_eq_true rfl⟩ hS (fun r_7 H locs h_7 hz_7 hS => ?_)
    have hKK := hKK0.keep hS.2.1
    obtain ⟨rfl, F_7, hW, hM, hs7⟩ := h_7
    have hsm := hsm.tr hs7
    refine lv_if_ne (tgt := 15) hx hb dX5_narrow_10 (by decide) (fun c_10 => absurd (by decide) c_10) (fun _ => ?_)
    refine lv_iconst (v := 0) hx hb dX5_narrow_13 (by decide) ?_
    exact W.iret (v := 0) hx hb hr (fun t ht hW9 => ⟨⟨_, rfl, by rw [ht]; exact ⟨_, F_7, Or.inl ⟨h_4, rfl⟩, hW, hM, hsm⟩⟩, hS.F ht⟩) hS.2.2 dX5_narrow_14
def ck_fd (P : Nat → Int32) (lim rank : Int32) : Nat → Int32
  | 0 => -1
  | k + 1 => if ¬ P k = -1 ∧ P k ≤ lim ∧ nI (ck_cb P k (P k) 4) = rank then nI k else ck_fd P lim rank k
def ck_Rroute (V : Nat → Nat → Int32) (nr : Nat) (Z : Int32 → Int32) (a0 a1 a2 a3 k r : Int32) : Prop := (¬ (ck_isN a0 ∧ ck_isD a1 ∧ (0 ≤ a2 ∧ a2 ≤ 10000) ∧ 0 ≤ a3) ∧ k = 1) ∨ ((ck_isN a0 ∧ ck_isD a1 ∧ (0 ≤ a2 ∧ a2 ≤ 10000) ∧ 0 ≤ a3) ∧ ((ck_best V a0 a1 nr = none ∧ k = 2) ∨ (∃ b, b < nr ∧ ck_best V a0 a1 nr = some b ∧ ((Z (V 9 b - a2) = -1 ∧ k = 2) ∨ (¬ Z (V 9 b - a2) = -1 ∧ k = 0 ∧ r = Z (V 9 b - a2))))))
theorem ck_fd_yes {P : Nat → Int32} {lim rank : Int32} {k : Nat} (h : ¬ P k = -1 ∧ P k ≤ lim ∧ nI (ck_cb P k (P k) 4) = rank) : ck_fd P lim rank (k + 1) = nI k := by simp only [ck_fd]; rw [if_pos h]
theorem ck_fd_no {P : Nat → Int32} {lim rank : Int32} {k : Nat} (h : ¬ (¬ P k = -1 ∧ P k ≤ lim ∧ nI (ck_cb P k (P k) 4) = rank)) : ck_fd P lim rank (k + 1) = ck_fd P lim rank k := by simp only [ck_fd]; rw [if_neg h]
set_option maxHeartbeats 4000000 in
set_option maxRecDepth 100000 in
theorem ct_X5_route (l : Launch) (G : ck_G) (H : Heap) (ad : Nat → Nat) (N : Nat → Prop) (F : Nat → va_E) (hW : ck_W G ad N F H) (V : Nat → Nat → Int32) (L : Nat → Nat → Int64) (nc nr : Nat) (t : Int32) (hM : ck_M G ad V L nc nr t N F) (hI : ck_I V nc nr) (hO : ck_oM V) (a0 a1 a2 a3 : Int32) : Met l yX5_route wsX5_route ({ frames := 2, cells := 0, slots := 0, locals := 47 }) (ck_P G H [.ref (ad 30), .int a0, .int a1, .int a2, .int a3]) (ck_Qi G (fun r H1 => ∃ t1 F1, ck_Rroute V nr (fun lim => ck_fd (ck_mo V a0) lim a3 4) a0 a1 a2 a3 t1 r ∧ ck_W G ad N F1 H1 ∧ ck_M G ad V L nc nr t1 N F1 ∧ ck_sM F F1)) 0 0 (ck_A G) := by
  refine Met.ofW (cc := cX5_route) (maxL := 12) (ret := (some .int)) (by decide) rfl ?_
  intro p e s m args below meth c s₁ B hml hv
  obtain ⟨rfl, hH, hKK⟩ := hv
  subst hH
  have hx := B.exec
  have hb := B.bytes
  have hr := B.returns
  have hts := atoms_spec (ws := wsX5_route) B.pre
  have hown : s.vm.findClass RX5 = some m.cls := findClass_of_methodNamed B.named
  have hlocks := B.notSynchronized
  have hKK0 := hKK
  have hK := hKK.1.1
  have hS : va_S (ck_A G) s.heap s.heap [] := va_S.rf
  have hinX5 : ∀ w ∈ u_ws RX5 TX5 26, w ∈ wsX5_route := by decide +kernel
  have hl := lv_entry ([.ref (ad 30), .int a0, .int a1, .int a2, .int a3]) (n := 12) (Nat.le_of_ble_eq_true rfl)
  rw [lg_entry_eq]
  generalize (lg_sl ([.ref (ad 30), .int a0, .int a1, .int a2, .int a3]) ++ List.replicate (12 - (lg_sl ([.ref (ad 30), .int a0, .int a1, .int a2, .int a3])).length) Slot.unset).toArray = ls at hl ⊢
  have hl : lv_has ls 12 [(0, .ref (ad 30)), (1, .int a0), (2, .int a1), (3, .int a2), (4, .int a3)] := hl
  have hsm : ck_sM F F := ck_sM.rf
  have hp7 := hI.hp7
  have hn0 := hI.hn0
  have hst := hI.hst
  refine lv_aload_n hx hb dX5_route_0 rfl (lv_at hl 0 rfl) ?_
  refine lv_iload_n hx hb dX5_route_1 rfl (lv_at hl 1 rfl) ?_
  refine ck_cSi (As := [.int a0]) (rest := [.ref (ad 30)]) ⟨hx, hb, hml, hown, hts⟩ hKK (ct_X5_isNumber l G s.heap a0) (va_cwS 1 hts gX5_route_X5_isNumber rfl rfl rfl (by decide +kernel) ⟨Nat.le_of_ble_eq_true rfl, Nat.le_of_ble_eq_true rfl⟩) rfl hl rfl (Nat.le_of_ble_eq_true rfl) dX5_route_2 ⟨Nat.le_of_ble_eq_true rfl, Nat.le_of_ble_eq_true rfl⟩ (fun r_2 h_2 => ?_)
  rcases h_2 with ⟨h_2, rfl⟩ | ⟨h_2, rfl⟩
  · skip
    refine lv_if_eq (tgt := 39) hx hb dX5_route_5 (by decide) (fun c_5 => absurd c_5 (by decide)) (fun _ => ?_)
    refine lv_iload_n hx hb dX5_route_8 rfl (lv_at hl 2 rfl) ?_
    refine lv_iconst (v := 0) hx hb dX5_route_9 (by decide) ?_
    refine lv_sipush (v := 999) hx hb dX5_route_10 (by decide) ?_
    refine ck_cSi (As := [.int a1, .int 0, .int 999]) (rest := [.ref (ad 30)]) ⟨hx, hb, hml, hown, hts⟩ hKK (ct_X5_in l G s.heap a1 0 999) (va_cwS 3 hts gX5_route_X5_in rfl rfl rfl (by decide +kernel) ⟨Nat.le_of_ble_eq_true rfl, Nat.le_of_ble_eq_true rfl⟩) rfl hl rfl (Nat.le_of_ble_eq_true rfl) dX5_route_13 ⟨Nat.le_of_ble_eq_true rfl, Nat.le_of_ble_eq_true rfl⟩ (fun r_13 h_13 => ?_)
    rcases h_13 with ⟨h_13, rfl⟩ | ⟨h_13, rfl⟩
    · skip
      refine lv_if_eq (tgt := 39) hx hb dX5_route_16 (by decide) (fun c_16 => absurd c_16 (by decide)) (fun _ => ?_)
      refine lv_iload_n hx hb dX5_route_19 rfl (lv_at hl 3 rfl) ?_
      refine lv_iconst (v := 0) hx hb dX5_route_20 (by decide) ?_
      refine lv_sipush (v := 10000) hx hb dX5_route_21 (by decide) ?_
      refine ck_cSi (As := [.int a2, .int 0, .int 10000]) (rest := [.ref (ad 30)]) ⟨hx, hb, hml, hown, hts⟩ hKK (ct_X5_in l G s.heap a2 0 10000) (va_cwS 3 hts gX5_route_X5_in rfl rfl rfl (by decide +kernel) ⟨Nat.le_of_ble_eq_true rfl, Nat.le_of_ble_eq_true rfl⟩) rfl hl rfl (Nat.le_of_ble_eq_true rfl) dX5_route_24 ⟨Nat.le_of_ble_eq_true rfl, Nat.le_of_ble_eq_true rfl⟩ (fun r_24 h_24 => ?_)
      rcases h_24 with ⟨h_24, rfl⟩ | ⟨h_24, rfl⟩
      · skip
        refine lv_if_eq (tgt := 39) hx hb dX5_route_27 (by decide) (fun c_27 => absurd c_27 (by decide)) (fun _ => ?_)
        refine lv_iload hx hb dX5_route_30 (lv_at hl 4 rfl) ?_
        refine lv_if_lt (tgt := 39) hx hb dX5_route_32 (by decide) (fun c_32 => ?_) (fun c_32 => ?_)
        · skip
          refine lv_iconst (v := 0) hx hb dX5_route_39 (by decide) ?_
          refine ck_cVw (As := [.int 0]) (rest := []) ⟨hx, hb, hml, hown, hts⟩ hKK (ct_X5_asks0 l G s.heap ad N F hW V L nc nr t hM) (cwV 1 hts gX5_route_X5_asks rfl rfl rfl (by decide +kernel) ⟨Nat.le_of_ble_eq_true rfl, Nat.le_of_ble_eq_true rfl⟩) (ck_recv hK hW (hM.n 30 (by decide) (by decide)) hM.f30 rfl) rfl hl rfl (Nat.le_of_ble_eq_true rfl) dX5_route_40 ⟨Nat.le_of_ble_eq_true rfl, Nat.le_of_ble_eq_true rfl⟩ hS (fun r_40 H locs h_40 hz_40 hS => ?_)
          have hKK := hKK0.keep hS.2.1
          obtain ⟨rfl, F_40, hW, hM, hs40⟩ := h_40
          have hsm := hsm.tr hs40
          refine lv_if_ne (tgt := 48) hx hb dX5_route_43 (by decide) (fun c_43 => absurd (by decide) c_43) (fun _ => ?_)
          refine lv_iconst (v := 0) hx hb dX5_route_46 (by decide) ?_
          exact W.iret (v := 0) hx hb hr (fun t ht hW9 => ⟨⟨_, rfl, by rw [ht]; exact ⟨_, F_40, Or.inl ⟨fun z => absurd z.2.2.2 (Int32.not_le.mpr c_32), rfl⟩, hW, hM, hsm⟩⟩, hS.F ht⟩) hS.2.2 dX5_route_47
        · skip
          refine lv_iconst (v := 1) hx hb dX5_route_35 (by decide) ?_
          refine lv_goto (tgt := 40) hx hb dX5_route_36 (by decide) ?_
          refine ck_cVw (As := [.int 1]) (rest := []) ⟨hx, hb, hml, hown, hts⟩ hKK (ct_X5_asks1 l G s.heap ad N F hW V L nc nr t hM) (cwV 1 hts gX5_route_X5_asks rfl rfl rfl (by decide +kernel) ⟨Nat.le_of_ble_eq_true rfl, Nat.le_of_ble_eq_true rfl⟩) (ck_recv hK hW (hM.n 30 (by decide) (by decide)) hM.f30 rfl) rfl hl rfl (Nat.le_of_ble_eq_true rfl) dX5_route_40 ⟨Nat.le_of_ble_eq_true rfl, Nat.le_of_ble_eq_true rfl⟩ hS (fun r_40 H locs h_40 hz_40 hS => ?_)
          have hKK := hKK0.keep hS.2.1
          obtain ⟨rfl, F_40, hW, hM, hs40⟩ := h_40
          have hsm := hsm.tr hs40
          refine lv_if_ne (tgt := 48) hx hb dX5_route_43 (by decide) (fun _ => ?_) (fun c_43 => absurd c_43 (by decide))
          refine lv_aload_n hx hb dX5_route_48 rfl (lv_at hl 0 rfl) ?_
          refine lv_iload_n hx hb dX5_route_49 rfl (lv_at hl 1 rfl) ?_
          refine lv_iload_n hx hb dX5_route_50 rfl (lv_at hl 2 rfl) ?_
          refine ck_cVi (As := [.int a0, .int a1]) (rest := []) ⟨hx, hb, hml, hown, hts⟩ hKK (ct_X5_rate l G H ad N F_40 hW V L nc nr 0 hM a0 a1 hp7 (ck_isN_rg h_2)) (cwV 2 hts gX5_route_X5_rate rfl rfl rfl (by decide +kernel) ⟨Nat.le_of_ble_eq_true rfl, Nat.le_of_ble_eq_true rfl⟩) (ck_recv hK hW (hM.n 30 (by decide) (by decide)) hM.f30 rfl) rfl hl rfl (Nat.le_of_ble_eq_true rfl) dX5_route_51 ⟨Nat.le_of_ble_eq_true rfl, Nat.le_of_ble_eq_true rfl⟩ (fun r_51 h_51 => ?_)
          subst h_51
          obtain ⟨ob, hob⟩ : ∃ ob, ck_best V a0 a1 nr = ob := ⟨_, rfl⟩
          rw [hob]
          rcases ob with _ | b
          · skip
            refine lv_istore (lv' := [(5, .int (-1)), (0, .ref (ad 30)), (1, .int a0), (2, .int a1), (3, .int a2), (4, .int a3)]) hx hb dX5_route_54 hl (by decide) rfl (fun ls hl => ?_)
            refine lv_iconst (v := (-1)) hx hb dX5_route_56 (by decide) ?_
            refine lv_istore (lv' := [(6, .int (-1)), (5, .int (-1)), (0, .ref (ad 30)), (1, .int a0), (2, .int a1), (3, .int a2), (4, .int a3)]) hx hb dX5_route_57 hl (by decide) rfl (fun ls hl => ?_)
            refine lv_iconst (v := 0) hx hb dX5_route_59 (by decide) ?_
            refine lv_istore (lv' := [(7, .int 0), (6, .int (-1)), (5, .int (-1)), (0, .ref (ad 30)), (1, .int a0), (2, .int a1), (3, .int a2), (4, .int a3)]) hx hb dX5_route_60 hl (by decide) rfl (fun ls hl => ?_)
            refine lv_iload hx hb dX5_route_62 (lv_at hl 0 rfl) ?_
            refine lv_iconst (v := 4) hx hb dX5_route_64 (by decide) ?_
            refine lv_icmp_ge (tgt := 189) hx hb dX5_route_65 (by decide) (fun c_65 => absurd c_65 (by decide)) (fun _ => ?_)
            refine lv_iload hx hb dX5_route_68 (lv_at hl 2 rfl) ?_
            refine lv_iconst (v := (-1)) hx hb dX5_route_70 (by decide) ?_
            refine lv_icmp_eq (tgt := 189) hx hb dX5_route_71 (by decide) (fun _ => ?_) (fun c_71 => absurd (by decide) c_71)
            refine lv_iload hx hb dX5_route_189 (lv_at hl 1 rfl) ?_
            refine lv_iconst (v := (-1)) hx hb dX5_route_191 (by decide) ?_
            refine lv_icmp_ne (tgt := 203) hx hb dX5_route_192 (by decide) (fun c_192 => absurd (by decide) c_192) (fun _ => ?_)
            refine lv_aload_n hx hb dX5_route_195 rfl (lv_at hl 3 rfl) ?_
            refine lv_iconst (v := 2) hx hb dX5_route_196 (by decide) ?_
            refine ck_cVw (As := [.int 2]) (rest := []) ⟨hx, hb, hml, hown, hts⟩ hKK (ct_X5_fails l G H ad N F_40 hW V L nc nr 0 hM 2) (cwV 1 hts gX5_route_X5_fails rfl rfl rfl (by decide +kernel) ⟨Nat.le_of_ble_eq_true rfl, Nat.le_of_ble_eq_true rfl⟩) (ck_recv hK hW (hM.n 30 (by decide) (by decide)) hM.f30 rfl) rfl hl rfl (Nat.le_of_ble_eq_true rfl) dX5_route_197 ⟨Nat.le_of_ble_eq_true rfl, Nat.le_of_ble_eq_true rfl⟩ hS (fun r_197 H locs h_197 hz_197 hS => ?_)
            have hKK := hKK0.keep hS.2.1
            obtain ⟨rfl, F_197, hW, hM, hs197⟩ := h_197
            have hsm := hsm.tr hs197
            refine lv_goto (tgt := 205) hx hb dX5_route_200 (by decide) ?_
            exact W.iret (v := 0) hx hb hr (fun t ht hW9 => ⟨⟨_, rfl, by rw [ht]; exact ⟨_, F_197, Or.inr ⟨⟨h_2, h_13, h_24, Int32.not_lt.mp c_32⟩, Or.inl ⟨hob, rfl⟩⟩, hW, hM, hsm⟩⟩, hS.F ht⟩) hS.2.2 dX5_route_205
          · skip
            have hbn : b < nr := ck_best_lt hob
            refine lv_istore (lv' := [(5, .int (nI b)), (0, .ref (ad 30)), (1, .int a0), (2, .int a1), (3, .int a2), (4, .int a3)]) hx hb dX5_route_54 hl (by decide) rfl (fun ls hl => ?_)
            refine lv_iconst (v := (-1)) hx hb dX5_route_56 (by decide) ?_
            refine lv_istore (lv' := [(6, .int (-1)), (5, .int (nI b)), (0, .ref (ad 30)), (1, .int a0), (2, .int a1), (3, .int a2), (4, .int a3)]) hx hb dX5_route_57 hl (by decide) rfl (fun ls hl => ?_)
            refine lv_iconst (v := 0) hx hb dX5_route_59 (by decide) ?_
            refine lv_istore (lv' := [(7, .int 0), (6, .int (-1)), (5, .int (nI b)), (0, .ref (ad 30)), (1, .int a0), (2, .int a1), (3, .int a2), (4, .int a3)]) hx hb dX5_route_60 hl (by decide) rfl (fun ls hl => ?_)
            refine ck_loop (P := fun ls => W p l e _ s m _ below meth c _ _ _ _ _ (F0 m _ ls _)) 4 (fun k => [(7, .int (nI k)), (6, .int (ck_fd (ck_mo V a0) (V 9 b - a2) a3 k)), (5, .int (nI b)), (0, .ref (ad 30)), (1, .int a0), (2, .int a1), (3, .int a2), (4, .int a3)]) (fun k => True) (lv_sub hl [0, 1, 2, 3, 4, 5, 6, 7] rfl) (trivial) ?_ ?_
            · intro ls hl hI62
              have hl : lv_has ls 12 [(7, .int (nI 4)), (6, .int (ck_fd (ck_mo V a0) (V 9 b - a2) a3 4)), (5, .int (nI b)), (0, .ref (ad 30)), (1, .int a0), (2, .int a1), (3, .int a2), (4, .int a3)] := hl
              refine lv_iload hx hb dX5_route_62 (lv_at hl 0 rfl) ?_
              refine lv_iconst (v := 4) hx hb dX5_route_64 (by decide) ?_
              refine lv_icmp_ge (tgt := 189) hx hb dX5_route_65 (by decide) (fun _ => ?_) (fun c_65 => absurd (Int32.le_refl _) c_65)
              refine lv_iload hx hb dX5_route_189 (lv_at hl 1 rfl) ?_
              refine lv_iconst (v := (-1)) hx hb dX5_route_191 (by decide) ?_
              refine lv_icmp_ne (tgt := 203) hx hb dX5_route_192 (by decide) (fun c_192 => ?_) (fun c_192 => ?_)
              · skip
                refine lv_iload hx hb dX5_route_203 (lv_at hl 1 rfl) ?_
                exact W.iret (v := (ck_fd (ck_mo V a0) (V 9 b - a2) a3 4)) hx hb hr (fun t ht hW9 => ⟨⟨_, rfl, by rw [ht]; exact ⟨_, F_40, Or.inr ⟨⟨h_2, h_13, h_24, Int32.not_lt.mp c_32⟩, Or.inr ⟨b, hbn, hob, Or.inr ⟨c_192, rfl, rfl⟩⟩⟩, hW, hM, hsm⟩⟩, hS.F ht⟩) hS.2.2 dX5_route_205
              · skip
                refine lv_aload_n hx hb dX5_route_195 rfl (lv_at hl 3 rfl) ?_
                refine lv_iconst (v := 2) hx hb dX5_route_196 (by decide) ?_
                refine ck_cVw (As := [.int 2]) (rest := []) ⟨hx, hb, hml, hown, hts⟩ hKK (ct_X5_fails l G H ad N F_40 hW V L nc nr 0 hM 2) (cwV 1 hts gX5_route_X5_fails rfl rfl rfl (by decide +kernel) ⟨Nat.le_of_ble_eq_true rfl, Nat.le_of_ble_eq_true rfl⟩) (ck_recv hK hW (hM.n 30 (by decide) (by decide)) hM.f30 rfl) rfl hl rfl (Nat.le_of_ble_eq_true rfl) dX5_route_197 ⟨Nat.le_of_ble_eq_true rfl, Nat.le_of_ble_eq_true rfl⟩ hS (fun r_197 H locs h_197 hz_197 hS => ?_)
                have hKK := hKK0.keep hS.2.1
                obtain ⟨rfl, F_197, hW, hM, hs197⟩ := h_197
                have hsm := hsm.tr hs197
                refine lv_goto (tgt := 205) hx hb dX5_route_200 (by decide) ?_
                exact W.iret (v := 0) hx hb hr (fun t ht hW9 => ⟨⟨_, rfl, by rw [ht]; exact ⟨_, F_197, Or.inr ⟨⟨h_2, h_13, h_24, Int32.not_lt.mp c_32⟩, Or.inr ⟨b, hbn, hob, Or.inl ⟨c_192, rfl⟩⟩⟩, hW, hM, hsm⟩⟩, hS.F ht⟩) hS.2.2 dX5_route_205
            · intro k62 hk62 hI62 ih62 ls hl
              have hl : lv_has ls 12 [(7, .int (nI k62)), (6, .int (ck_fd (ck_mo V a0) (V 9 b - a2) a3 k62)), (5, .int (nI b)), (0, .ref (ad 30)), (1, .int a0), (2, .int a1), (3, .int a2), (4, .int a3)] := hl
              refine lv_iload hx hb dX5_route_62 (lv_at hl 0 rfl) ?_
              refine lv_iconst (v := 4) hx hb dX5_route_64 (by decide) ?_
              refine lv_icmp_ge (tgt := 189) hx hb dX5_route_65 (by decide) (fun c_65 => absurd c_65 (nI_ge hk62 (by decide))) (fun _ => ?_)
              refine lv_iload hx hb dX5_route_68 (lv_at hl 2 rfl) ?_
              refine lv_iconst (v := (-1)) hx hb dX5_route_70 (by decide) ?_
              refine lv_icmp_eq (tgt := 189) hx hb dX5_route_71 (by decide) (fun c_71 => absurd c_71 (ck_m1 (by have := hM.nr; omega))) (fun _ => ?_)
              refine lv_aload_n hx hb dX5_route_74 rfl (lv_at hl 3 rfl) ?_
              refine lv_iload hx hb dX5_route_75 (lv_at hl 0 rfl) ?_
              refine lv_iload_n hx hb dX5_route_77 rfl (lv_at hl 4 rfl) ?_
              refine ck_cVi (As := [.int (nI k62), .int a0]) (rest := []) ⟨hx, hb, hml, hown, hts⟩ hKK (ct_X5_offerOf l G H ad N F_40 hW V L nc nr 0 hM k62 hk62 _ (hO k62 hk62).1 (hO k62 hk62).2.1 a0 (hO.p hk62) (ck_isN_rg h_2)) (cwV 2 hts gX5_route_X5_offerOf rfl rfl rfl (by decide +kernel) ⟨Nat.le_of_ble_eq_true rfl, Nat.le_of_ble_eq_true rfl⟩) (ck_recv hK hW (hM.n 30 (by decide) (by decide)) hM.f30 rfl) rfl hl rfl (Nat.le_of_ble_eq_true rfl) dX5_route_78 ⟨Nat.le_of_ble_eq_true rfl, Nat.le_of_ble_eq_true rfl⟩ (fun r_78 h_78 => ?_)
              subst h_78
              refine lv_istore (lv' := [(8, .int (ck_mo V a0 k62)), (7, .int (nI k62)), (6, .int (ck_fd (ck_mo V a0) (V 9 b - a2) a3 k62)), (5, .int (nI b)), (0, .ref (ad 30)), (1, .int a0), (2, .int a1), (3, .int a2), (4, .int a3)]) hx hb dX5_route_81 hl (by decide) rfl (fun ls hl => ?_)
              refine lv_iconst (v := 0) hx hb dX5_route_83 (by decide) ?_
              refine lv_istore (lv' := [(9, .int 0), (8, .int (ck_mo V a0 k62)), (7, .int (nI k62)), (6, .int (ck_fd (ck_mo V a0) (V 9 b - a2) a3 k62)), (5, .int (nI b)), (0, .ref (ad 30)), (1, .int a0), (2, .int a1), (3, .int a2), (4, .int a3)]) hx hb dX5_route_84 hl (by decide) rfl (fun ls hl => ?_)
              refine lv_iconst (v := 0) hx hb dX5_route_86 (by decide) ?_
              refine lv_istore (lv' := [(10, .int 0), (9, .int 0), (8, .int (ck_mo V a0 k62)), (7, .int (nI k62)), (6, .int (ck_fd (ck_mo V a0) (V 9 b - a2) a3 k62)), (5, .int (nI b)), (0, .ref (ad 30)), (1, .int a0), (2, .int a1), (3, .int a2), (4, .int a3)]) hx hb dX5_route_87 hl (by decide) rfl (fun ls hl => ?_)
              refine ck_loop (P := fun ls => W p l e _ s m _ below meth c _ _ _ _ _ (F0 m _ ls _)) 4 (fun k => [(10, .int (nI k)), (9, .int (nI (ck_cb (ck_mo V a0) k62 (ck_mo V a0 k62) k))), (8, .int (ck_mo V a0 k62)), (7, .int (nI k62)), (6, .int (ck_fd (ck_mo V a0) (V 9 b - a2) a3 k62)), (5, .int (nI b)), (0, .ref (ad 30)), (1, .int a0), (2, .int a1), (3, .int a2), (4, .int a3)]) (fun k => True) (lv_sub hl [0, 1, 2, 3, 4, 5, 6, 7, 8, 9, 10] rfl) (trivial) ?_ ?_
              · intro ls hl hI89
                have hl : lv_has ls 12 [(10, .int (nI 4)), (9, .int (nI (ck_cb (ck_mo V a0) k62 (ck_mo V a0 k62) 4))), (8, .int (ck_mo V a0 k62)), (7, .int (nI k62)), (6, .int (ck_fd (ck_mo V a0) (V 9 b - a2) a3 k62)), (5, .int (nI b)), (0, .ref (ad 30)), (1, .int a0), (2, .int a1), (3, .int a2), (4, .int a3)] := hl
                refine lv_iload hx hb dX5_route_89 (lv_at hl 0 rfl) ?_
                refine lv_iconst (v := 4) hx hb dX5_route_91 (by decide) ?_
                refine lv_icmp_ge (tgt := 147) hx hb dX5_route_92 (by decide) (fun _ => ?_) (fun c_92 => absurd (Int32.le_refl _) c_92)
                refine lv_iload hx hb dX5_route_147 (lv_at hl 2 rfl) ?_
                refine lv_iconst (v := (-1)) hx hb dX5_route_149 (by decide) ?_
                refine lv_icmp_eq (tgt := 179) hx hb dX5_route_150 (by decide) (fun c_150 => ?_) (fun c_150 => ?_)
                · skip
                  refine lv_iload hx hb dX5_route_179 (lv_at hl 4 rfl) ?_
                  refine lv_istore (lv' := [(6, .int (ck_fd (ck_mo V a0) (V 9 b - a2) a3 k62)), (10, .int (nI 4)), (9, .int (nI (ck_cb (ck_mo V a0) k62 (ck_mo V a0 k62) 4))), (8, .int (ck_mo V a0 k62)), (7, .int (nI k62)), (5, .int (nI b)), (0, .ref (ad 30)), (1, .int a0), (2, .int a1), (3, .int a2), (4, .int a3)]) hx hb dX5_route_181 hl (by decide) rfl (fun ls hl => ?_)
                  refine lv_iinc (v := nI (k62 + 1)) (lv' := [(7, .int (nI (k62 + 1))), (6, .int (ck_fd (ck_mo V a0) (V 9 b - a2) a3 k62)), (10, .int (nI 4)), (9, .int (nI (ck_cb (ck_mo V a0) k62 (ck_mo V a0 k62) 4))), (8, .int (ck_mo V a0 k62)), (5, .int (nI b)), (0, .ref (ad 30)), (1, .int a0), (2, .int a1), (3, .int a2), (4, .int a3)]) hx hb dX5_route_183 hl (k := 4) rfl (nI_1 k62) (by decide) rfl (fun ls hl => ?_)
                  refine lv_goto (tgt := 62) hx hb dX5_route_186 (by decide) ?_
                  have e9 : ck_fd (ck_mo V a0) (V 9 b - a2) a3 (k62 + 1) = _ := ck_fd_no (fun z => z.1 c_150)
                  have hl : lv_has ls 12 [(7, .int (nI (k62 + 1))), (6, .int (ck_fd (ck_mo V a0) (V 9 b - a2) a3 (k62 + 1))), (10, .int (nI 4)), (9, .int (nI (ck_cb (ck_mo V a0) k62 (ck_mo V a0 k62) 4))), (8, .int (ck_mo V a0 k62)), (5, .int (nI b)), (0, .ref (ad 30)), (1, .int a0), (2, .int a1), (3, .int a2), (4, .int a3)] := by rw [e9]; exact hl
                  exact ih62 ls (lv_sub hl [0, 1, 5, 6, 7, 8, 9, 10] rfl) (trivial)
                · skip
                  refine lv_iload hx hb dX5_route_153 (lv_at hl 2 rfl) ?_
                  refine lv_aload_n hx hb dX5_route_155 rfl (lv_at hl 6 rfl) ?_
                  refine ck_get (v := .ref (ad 45)) hx hb hts hinX5 hown hK hW (hM.n 30 (by decide) (by decide)) hM.f30 rfl 18 (by decide) (hts _ (List.mem_of_getElem? (i := 1) rfl)) rfl rfl dX5_route_156 ?_
                  refine lv_iload hx hb dX5_route_159 (lv_at hl 5 rfl) ?_
                  refine ck_iald hx hb hK hW (hM.n 45 (by decide) (by decide)) hM.f45 b (rfl) (by have := hM.nr; omega) (by decide) dX5_route_161 ?_
                  refine lv_iload_n hx hb dX5_route_162 rfl (lv_at hl 9 rfl) ?_
                  refine lv_isub hx hb dX5_route_163 ?_
                  refine lv_icmp_gt (tgt := 179) hx hb dX5_route_164 (by decide) (fun c_164 => ?_) (fun c_164 => ?_)
                  · skip
                    refine lv_iload hx hb dX5_route_179 (lv_at hl 4 rfl) ?_
                    refine lv_istore (lv' := [(6, .int (ck_fd (ck_mo V a0) (V 9 b - a2) a3 k62)), (10, .int (nI 4)), (9, .int (nI (ck_cb (ck_mo V a0) k62 (ck_mo V a0 k62) 4))), (8, .int (ck_mo V a0 k62)), (7, .int (nI k62)), (5, .int (nI b)), (0, .ref (ad 30)), (1, .int a0), (2, .int a1), (3, .int a2), (4, .int a3)]) hx hb dX5_route_181 hl (by decide) rfl (fun ls hl => ?_)
                    refine lv_iinc (v := nI (k62 + 1)) (lv' := [(7, .int (nI (k62 + 1))), (6, .int (ck_fd (ck_mo V a0) (V 9 b - a2) a3 k62)), (10, .int (nI 4)), (9, .int (nI (ck_cb (ck_mo V a0) k62 (ck_mo V a0 k62) 4))), (8, .int (ck_mo V a0 k62)), (5, .int (nI b)), (0, .ref (ad 30)), (1, .int a0), (2, .int a1), (3, .int a2), (4, .int a3)]) hx hb dX5_route_183 hl (k := 4) rfl (nI_1 k62) (by decide) rfl (fun ls hl => ?_)
                    refine lv_goto (tgt := 62) hx hb dX5_route_186 (by decide) ?_
                    have e9 : ck_fd (ck_mo V a0) (V 9 b - a2) a3 (k62 + 1) = _ := ck_fd_no (fun z => absurd z.2.1 (Int32.not_le.mpr c_164))
                    have hl : lv_has ls 12 [(7, .int (nI (k62 + 1))), (6, .int (ck_fd (ck_mo V a0) (V 9 b - a2) a3 (k62 + 1))), (10, .int (nI 4)), (9, .int (nI (ck_cb (ck_mo V a0) k62 (ck_mo V a0 k62) 4))), (8, .int (ck_mo V a0 k62)), (5, .int (nI b)), (0, .ref (ad 30)), (1, .int a0), (2, .int a1), (3, .int a2), (4, .int a3)] := by rw [e9]; exact hl
                    exact ih62 ls (lv_sub hl [0, 1, 5, 6, 7, 8, 9, 10] rfl) (trivial)
                  · skip
                    refine lv_iload hx hb dX5_route_167 (lv_at hl 1 rfl) ?_
                    refine lv_iload hx hb dX5_route_169 (lv_at hl 10 rfl) ?_
                    refine lv_icmp_ne (tgt := 179) hx hb dX5_route_171 (by decide) (fun c_171 => ?_) (fun c_171 => ?_)
                    · skip
                      refine lv_iload hx hb dX5_route_179 (lv_at hl 4 rfl) ?_
                      refine lv_istore (lv' := [(6, .int (ck_fd (ck_mo V a0) (V 9 b - a2) a3 k62)), (10, .int (nI 4)), (9, .int (nI (ck_cb (ck_mo V a0) k62 (ck_mo V a0 k62) 4))), (8, .int (ck_mo V a0 k62)), (7, .int (nI k62)), (5, .int (nI b)), (0, .ref (ad 30)), (1, .int a0), (2, .int a1), (3, .int a2), (4, .int a3)]) hx hb dX5_route_181 hl (by decide) rfl (fun ls hl => ?_)
                      refine lv_iinc (v := nI (k62 + 1)) (lv' := [(7, .int (nI (k62 + 1))), (6, .int (ck_fd (ck_mo V a0) (V 9 b - a2) a3 k62)), (10, .int (nI 4)), (9, .int (nI (ck_cb (ck_mo V a0) k62 (ck_mo V a0 k62) 4))), (8, .int (ck_mo V a0 k62)), (5, .int (nI b)), (0, .ref (ad 30)), (1, .int a0), (2, .int a1), (3, .int a2), (4, .int a3)]) hx hb dX5_route_183 hl (k := 4) rfl (nI_1 k62) (by decide) rfl (fun ls hl => ?_)
                      refine lv_goto (tgt := 62) hx hb dX5_route_186 (by decide) ?_
                      have e9 : ck_fd (ck_mo V a0) (V 9 b - a2) a3 (k62 + 1) = _ := ck_fd_no (fun z => c_171 z.2.2)
                      have hl : lv_has ls 12 [(7, .int (nI (k62 + 1))), (6, .int (ck_fd (ck_mo V a0) (V 9 b - a2) a3 (k62 + 1))), (10, .int (nI 4)), (9, .int (nI (ck_cb (ck_mo V a0) k62 (ck_mo V a0 k62) 4))), (8, .int (ck_mo V a0 k62)), (5, .int (nI b)), (0, .ref (ad 30)), (1, .int a0), (2, .int a1), (3, .int a2), (4, .int a3)] := by rw [e9]; exact hl
                      exact ih62 ls (lv_sub hl [0, 1, 5, 6, 7, 8, 9, 10] rfl) (trivial)
                    · skip
                      refine lv_iload hx hb dX5_route_174 (lv_at hl 3 rfl) ?_
                      refine lv_goto (tgt := 181) hx hb dX5_route_176 (by decide) ?_
                      refine lv_istore (lv' := [(6, .int (nI k62)), (10, .int (nI 4)), (9, .int (nI (ck_cb (ck_mo V a0) k62 (ck_mo V a0 k62) 4))), (8, .int (ck_mo V a0 k62)), (7, .int (nI k62)), (5, .int (nI b)), (0, .ref (ad 30)), (1, .int a0), (2, .int a1), (3, .int a2), (4, .int a3)]) hx hb dX5_route_181 hl (by decide) rfl (fun ls hl => ?_)
                      refine lv_iinc (v := nI (k62 + 1)) (lv' := [(7, .int (nI (k62 + 1))), (6, .int (nI k62)), (10, .int (nI 4)), (9, .int (nI (ck_cb (ck_mo V a0) k62 (ck_mo V a0 k62) 4))), (8, .int (ck_mo V a0 k62)), (5, .int (nI b)), (0, .ref (ad 30)), (1, .int a0), (2, .int a1), (3, .int a2), (4, .int a3)]) hx hb dX5_route_183 hl (k := 4) rfl (nI_1 k62) (by decide) rfl (fun ls hl => ?_)
                      refine lv_goto (tgt := 62) hx hb dX5_route_186 (by decide) ?_
                      have e9 : ck_fd (ck_mo V a0) (V 9 b - a2) a3 (k62 + 1) = _ := ck_fd_yes ⟨c_150, Int32.not_lt.mp c_164, c_171⟩
                      have hl : lv_has ls 12 [(7, .int (nI (k62 + 1))), (6, .int (ck_fd (ck_mo V a0) (V 9 b - a2) a3 (k62 + 1))), (10, .int (nI 4)), (9, .int (nI (ck_cb (ck_mo V a0) k62 (ck_mo V a0 k62) 4))), (8, .int (ck_mo V a0 k62)), (5, .int (nI b)), (0, .ref (ad 30)), (1, .int a0), (2, .int a1), (3, .int a2), (4, .int a3)] := by rw [e9]; exact hl
                      exact ih62 ls (lv_sub hl [0, 1, 5, 6, 7, 8, 9, 10] rfl) (trivial)
              · intro k89 hk89 hI89 ih89 ls hl
                have hl : lv_has ls 12 [(10, .int (nI k89)), (9, .int (nI (ck_cb (ck_mo V a0) k62 (ck_mo V a0 k62) k89))), (8, .int (ck_mo V a0 k62)), (7, .int (nI k62)), (6, .int (ck_fd (ck_mo V a0) (V 9 b - a2) a3 k62)), (5, .int (nI b)), (0, .ref (ad 30)), (1, .int a0), (2, .int a1), (3, .int a2), (4, .int a3)] := hl
                refine lv_iload hx hb dX5_route_89 (lv_at hl 0 rfl) ?_
                refine lv_iconst (v := 4) hx hb dX5_route_91 (by decide) ?_
                refine lv_icmp_ge (tgt := 147) hx hb dX5_route_92 (by decide) (fun c_92 => absurd c_92 (nI_ge hk89 (by decide))) (fun _ => ?_)
                refine lv_aload_n hx hb dX5_route_95 rfl (lv_at hl 6 rfl) ?_
                refine lv_iload hx hb dX5_route_96 (lv_at hl 0 rfl) ?_
                refine lv_iload_n hx hb dX5_route_98 rfl (lv_at hl 7 rfl) ?_
                refine ck_cVi (As := [.int (nI k89), .int a0]) (rest := []) ⟨hx, hb, hml, hown, hts⟩ hKK (ct_X5_offerOf l G H ad N F_40 hW V L nc nr 0 hM k89 hk89 _ (hO k89 hk89).1 (hO k89 hk89).2.1 a0 (hO.p hk89) (ck_isN_rg h_2)) (cwV 2 hts gX5_route_X5_offerOf rfl rfl rfl (by decide +kernel) ⟨Nat.le_of_ble_eq_true rfl, Nat.le_of_ble_eq_true rfl⟩) (ck_recv hK hW (hM.n 30 (by decide) (by decide)) hM.f30 rfl) rfl hl rfl (Nat.le_of_ble_eq_true rfl) dX5_route_99 ⟨Nat.le_of_ble_eq_true rfl, Nat.le_of_ble_eq_true rfl⟩ (fun r_99 h_99 => ?_)
                subst h_99
                refine lv_istore (lv' := [(11, .int (ck_mo V a0 k89)), (10, .int (nI k89)), (9, .int (nI (ck_cb (ck_mo V a0) k62 (ck_mo V a0 k62) k89))), (8, .int (ck_mo V a0 k62)), (7, .int (nI k62)), (6, .int (ck_fd (ck_mo V a0) (V 9 b - a2) a3 k62)), (5, .int (nI b)), (0, .ref (ad 30)), (1, .int a0), (2, .int a1), (3, .int a2), (4, .int a3)]) hx hb dX5_route_102 hl (by decide) rfl (fun ls hl => ?_)
                refine lv_iload hx hb dX5_route_104 (lv_at hl 2 rfl) ?_
                refine lv_iload hx hb dX5_route_106 (lv_at hl 0 rfl) ?_
                refine lv_iconst (v := (-1)) hx hb dX5_route_108 (by decide) ?_
                refine lv_icmp_eq (tgt := 137) hx hb dX5_route_109 (by decide) (fun c_109 => ?_) (fun c_109 => ?_)
                · skip
                  refine lv_iconst (v := 0) hx hb dX5_route_137 (by decide) ?_
                  refine lv_iadd hx hb dX5_route_138 ?_
                  refine lv_istore (lv' := [(9, .int (((nI (ck_cb (ck_mo V a0) k62 (ck_mo V a0 k62) k89))) + 0)), (11, .int (ck_mo V a0 k89)), (10, .int (nI k89)), (8, .int (ck_mo V a0 k62)), (7, .int (nI k62)), (6, .int (ck_fd (ck_mo V a0) (V 9 b - a2) a3 k62)), (5, .int (nI b)), (0, .ref (ad 30)), (1, .int a0), (2, .int a1), (3, .int a2), (4, .int a3)]) hx hb dX5_route_139 hl (by decide) rfl (fun ls hl => ?_)
                  refine lv_iinc (v := nI (k89 + 1)) (lv' := [(10, .int (nI (k89 + 1))), (9, .int (((nI (ck_cb (ck_mo V a0) k62 (ck_mo V a0 k62) k89))) + 0)), (11, .int (ck_mo V a0 k89)), (8, .int (ck_mo V a0 k62)), (7, .int (nI k62)), (6, .int (ck_fd (ck_mo V a0) (V 9 b - a2) a3 k62)), (5, .int (nI b)), (0, .ref (ad 30)), (1, .int a0), (2, .int a1), (3, .int a2), (4, .int a3)]) hx hb dX5_route_141 hl (k := 2) rfl (nI_1 k89) (by decide) rfl (fun ls hl => ?_)
                  refine lv_goto (tgt := 89) hx hb dX5_route_144 (by decide) ?_
                  have e9 : nI (ck_cb (ck_mo V a0) k62 (ck_mo V a0 k62) (k89 + 1)) = nI (ck_cb (ck_mo V a0) k62 (ck_mo V a0 k62) k89) + 0 := by rw [ck_cb_no (fun z => z.1 c_109), Int32.add_zero]
                  have hl : lv_has ls 12 [(10, .int (nI (k89 + 1))), (9, .int (nI (ck_cb (ck_mo V a0) k62 (ck_mo V a0 k62) (k89 + 1)))), (11, .int (ck_mo V a0 k89)), (8, .int (ck_mo V a0 k62)), (7, .int (nI k62)), (6, .int (ck_fd (ck_mo V a0) (V 9 b - a2) a3 k62)), (5, .int (nI b)), (0, .ref (ad 30)), (1, .int a0), (2, .int a1), (3, .int a2), (4, .int a3)] := by rw [e9]; exact hl
                  exact ih89 ls (lv_sub hl [0, 1, 3, 4, 5, 6, 7, 8, 9, 10, 11] rfl) (trivial)
                · skip
                  refine lv_iload hx hb dX5_route_112 (lv_at hl 0 rfl) ?_
                  refine lv_iload hx hb dX5_route_114 (lv_at hl 3 rfl) ?_
                  refine lv_icmp_lt (tgt := 133) hx hb dX5_route_116 (by decide) (fun c_116 => ?_) (fun c_116 => ?_)
                  · skip
                    refine lv_iconst (v := 1) hx hb dX5_route_133 (by decide) ?_
                    refine lv_goto (tgt := 138) hx hb dX5_route_134 (by decide) ?_
                    refine lv_iadd hx hb dX5_route_138 ?_
                    refine lv_istore (lv' := [(9, .int (((nI (ck_cb (ck_mo V a0) k62 (ck_mo V a0 k62) k89))) + 1)), (11, .int (ck_mo V a0 k89)), (10, .int (nI k89)), (8, .int (ck_mo V a0 k62)), (7, .int (nI k62)), (6, .int (ck_fd (ck_mo V a0) (V 9 b - a2) a3 k62)), (5, .int (nI b)), (0, .ref (ad 30)), (1, .int a0), (2, .int a1), (3, .int a2), (4, .int a3)]) hx hb dX5_route_139 hl (by decide) rfl (fun ls hl => ?_)
                    refine lv_iinc (v := nI (k89 + 1)) (lv' := [(10, .int (nI (k89 + 1))), (9, .int (((nI (ck_cb (ck_mo V a0) k62 (ck_mo V a0 k62) k89))) + 1)), (11, .int (ck_mo V a0 k89)), (8, .int (ck_mo V a0 k62)), (7, .int (nI k62)), (6, .int (ck_fd (ck_mo V a0) (V 9 b - a2) a3 k62)), (5, .int (nI b)), (0, .ref (ad 30)), (1, .int a0), (2, .int a1), (3, .int a2), (4, .int a3)]) hx hb dX5_route_141 hl (k := 2) rfl (nI_1 k89) (by decide) rfl (fun ls hl => ?_)
                    refine lv_goto (tgt := 89) hx hb dX5_route_144 (by decide) ?_
                    have e9 : nI (ck_cb (ck_mo V a0) k62 (ck_mo V a0 k62) (k89 + 1)) = nI (ck_cb (ck_mo V a0) k62 (ck_mo V a0 k62) k89) + 1 := by rw [ck_cb_yes (⟨c_109, Or.inl c_116⟩), nI_1]
                    have hl : lv_has ls 12 [(10, .int (nI (k89 + 1))), (9, .int (nI (ck_cb (ck_mo V a0) k62 (ck_mo V a0 k62) (k89 + 1)))), (11, .int (ck_mo V a0 k89)), (8, .int (ck_mo V a0 k62)), (7, .int (nI k62)), (6, .int (ck_fd (ck_mo V a0) (V 9 b - a2) a3 k62)), (5, .int (nI b)), (0, .ref (ad 30)), (1, .int a0), (2, .int a1), (3, .int a2), (4, .int a3)] := by rw [e9]; exact hl
                    exact ih89 ls (lv_sub hl [0, 1, 3, 4, 5, 6, 7, 8, 9, 10, 11] rfl) (trivial)
                  · skip
                    refine lv_iload hx hb dX5_route_119 (lv_at hl 0 rfl) ?_
                    refine lv_iload hx hb dX5_route_121 (lv_at hl 3 rfl) ?_
                    refine lv_icmp_ne (tgt := 137) hx hb dX5_route_123 (by decide) (fun c_123 => ?_) (fun c_123 => ?_)
                    · skip
                      refine lv_iconst (v := 0) hx hb dX5_route_137 (by decide) ?_
                      refine lv_iadd hx hb dX5_route_138 ?_
                      refine lv_istore (lv' := [(9, .int (((nI (ck_cb (ck_mo V a0) k62 (ck_mo V a0 k62) k89))) + 0)), (11, .int (ck_mo V a0 k89)), (10, .int (nI k89)), (8, .int (ck_mo V a0 k62)), (7, .int (nI k62)), (6, .int (ck_fd (ck_mo V a0) (V 9 b - a2) a3 k62)), (5, .int (nI b)), (0, .ref (ad 30)), (1, .int a0), (2, .int a1), (3, .int a2), (4, .int a3)]) hx hb dX5_route_139 hl (by decide) rfl (fun ls hl => ?_)
                      refine lv_iinc (v := nI (k89 + 1)) (lv' := [(10, .int (nI (k89 + 1))), (9, .int (((nI (ck_cb (ck_mo V a0) k62 (ck_mo V a0 k62) k89))) + 0)), (11, .int (ck_mo V a0 k89)), (8, .int (ck_mo V a0 k62)), (7, .int (nI k62)), (6, .int (ck_fd (ck_mo V a0) (V 9 b - a2) a3 k62)), (5, .int (nI b)), (0, .ref (ad 30)), (1, .int a0), (2, .int a1), (3, .int a2), (4, .int a3)]) hx hb dX5_route_141 hl (k := 2) rfl (nI_1 k89) (by decide) rfl (fun ls hl => ?_)
                      refine lv_goto (tgt := 89) hx hb dX5_route_144 (by decide) ?_
                      have e9 : nI (ck_cb (ck_mo V a0) k62 (ck_mo V a0 k62) (k89 + 1)) = nI (ck_cb (ck_mo V a0) k62 (ck_mo V a0 k62) k89) + 0 := by rw [ck_cb_no (fun z => z.2.elim c_116 (fun z => c_123 z.1)), Int32.add_zero]
                      have hl : lv_has ls 12 [(10, .int (nI (k89 + 1))), (9, .int (nI (ck_cb (ck_mo V a0) k62 (ck_mo V a0 k62) (k89 + 1)))), (11, .int (ck_mo V a0 k89)), (8, .int (ck_mo V a0 k62)), (7, .int (nI k62)), (6, .int (ck_fd (ck_mo V a0) (V 9 b - a2) a3 k62)), (5, .int (nI b)), (0, .ref (ad 30)), (1, .int a0), (2, .int a1), (3, .int a2), (4, .int a3)] := by rw [e9]; exact hl
                      exact ih89 ls (lv_sub hl [0, 1, 3, 4, 5, 6, 7, 8, 9, 10, 11] rfl) (trivial)
                    · skip
                      refine lv_iload hx hb dX5_route_126 (lv_at hl 1 rfl) ?_
                      refine lv_iload hx hb dX5_route_128 (lv_at hl 4 rfl) ?_
                      refine lv_icmp_ge (tgt := 137) hx hb dX5_route_130 (by decide) (fun c_130 => ?_) (fun c_130 => ?_)
                      · skip
                        refine lv_iconst (v := 0) hx hb dX5_route_137 (by decide) ?_
                        refine lv_iadd hx hb dX5_route_138 ?_
                        refine lv_istore (lv' := [(9, .int (((nI (ck_cb (ck_mo V a0) k62 (ck_mo V a0 k62) k89))) + 0)), (11, .int (ck_mo V a0 k89)), (10, .int (nI k89)), (8, .int (ck_mo V a0 k62)), (7, .int (nI k62)), (6, .int (ck_fd (ck_mo V a0) (V 9 b - a2) a3 k62)), (5, .int (nI b)), (0, .ref (ad 30)), (1, .int a0), (2, .int a1), (3, .int a2), (4, .int a3)]) hx hb dX5_route_139 hl (by decide) rfl (fun ls hl => ?_)
                        refine lv_iinc (v := nI (k89 + 1)) (lv' := [(10, .int (nI (k89 + 1))), (9, .int (((nI (ck_cb (ck_mo V a0) k62 (ck_mo V a0 k62) k89))) + 0)), (11, .int (ck_mo V a0 k89)), (8, .int (ck_mo V a0 k62)), (7, .int (nI k62)), (6, .int (ck_fd (ck_mo V a0) (V 9 b - a2) a3 k62)), (5, .int (nI b)), (0, .ref (ad 30)), (1, .int a0), (2, .int a1), (3, .int a2), (4, .int a3)]) hx hb dX5_route_141 hl (k := 2) rfl (nI_1 k89) (by decide) rfl (fun ls hl => ?_)
                        refine lv_goto (tgt := 89) hx hb dX5_route_144 (by decide) ?_
                        have e9 : nI (ck_cb (ck_mo V a0) k62 (ck_mo V a0 k62) (k89 + 1)) = nI (ck_cb (ck_mo V a0) k62 (ck_mo V a0 k62) k89) + 0 := by rw [ck_cb_no (fun z => z.2.elim c_116 (fun z => absurd ((nI_leI (by omega) (by omega)).mp c_130) (by omega))), Int32.add_zero]
                        have hl : lv_has ls 12 [(10, .int (nI (k89 + 1))), (9, .int (nI (ck_cb (ck_mo V a0) k62 (ck_mo V a0 k62) (k89 + 1)))), (11, .int (ck_mo V a0 k89)), (8, .int (ck_mo V a0 k62)), (7, .int (nI k62)), (6, .int (ck_fd (ck_mo V a0) (V 9 b - a2) a3 k62)), (5, .int (nI b)), (0, .ref (ad 30)), (1, .int a0), (2, .int a1), (3, .int a2), (4, .int a3)] := by rw [e9]; exact hl
                        exact ih89 ls (lv_sub hl [0, 1, 3, 4, 5, 6, 7, 8, 9, 10, 11] rfl) (trivial)
                      · skip
                        refine lv_iconst (v := 1) hx hb dX5_route_133 (by decide) ?_
                        refine lv_goto (tgt := 138) hx hb dX5_route_134 (by decide) ?_
                        refine lv_iadd hx hb dX5_route_138 ?_
                        refine lv_istore (lv' := [(9, .int (((nI (ck_cb (ck_mo V a0) k62 (ck_mo V a0 k62) k89))) + 1)), (11, .int (ck_mo V a0 k89)), (10, .int (nI k89)), (8, .int (ck_mo V a0 k62)), (7, .int (nI k62)), (6, .int (ck_fd (ck_mo V a0) (V 9 b - a2) a3 k62)), (5, .int (nI b)), (0, .ref (ad 30)), (1, .int a0), (2, .int a1), (3, .int a2), (4, .int a3)]) hx hb dX5_route_139 hl (by decide) rfl (fun ls hl => ?_)
                        refine lv_iinc (v := nI (k89 + 1)) (lv' := [(10, .int (nI (k89 + 1))), (9, .int (((nI (ck_cb (ck_mo V a0) k62 (ck_mo V a0 k62) k89))) + 1)), (11, .int (ck_mo V a0 k89)), (8, .int (ck_mo V a0 k62)), (7, .int (nI k62)), (6, .int (ck_fd (ck_mo V a0) (V 9 b - a2) a3 k62)), (5, .int (nI b)), (0, .ref (ad 30)), (1, .int a0), (2, .int a1), (3, .int a2), (4, .int a3)]) hx hb dX5_route_141 hl (k := 2) rfl (nI_1 k89) (by decide) rfl (fun ls hl => ?_)
                        refine lv_goto (tgt := 89) hx hb dX5_route_144 (by decide) ?_
                        have e9 : nI (ck_cb (ck_mo V a0) k62 (ck_mo V a0 k62) (k89 + 1)) = nI (ck_cb (ck_mo V a0) k62 (ck_mo V a0 k62) k89) + 1 := by rw [ck_cb_yes (⟨c_109, Or.inr ⟨c_123, Nat.lt_of_not_le (fun z => c_130 ((nI_leI (by omega) (by omega)).mpr z))⟩⟩), nI_1]
                        have hl : lv_has ls 12 [(10, .int (nI (k89 + 1))), (9, .int (nI (ck_cb (ck_mo V a0) k62 (ck_mo V a0 k62) (k89 + 1)))), (11, .int (ck_mo V a0 k89)), (8, .int (ck_mo V a0 k62)), (7, .int (nI k62)), (6, .int (ck_fd (ck_mo V a0) (V 9 b - a2) a3 k62)), (5, .int (nI b)), (0, .ref (ad 30)), (1, .int a0), (2, .int a1), (3, .int a2), (4, .int a3)] := by rw [e9]; exact hl
                        exact ih89 ls (lv_sub hl [0, 1, 3, 4, 5, 6, 7, 8, 9, 10, 11] rfl) (trivial)
      · skip
        refine lv_if_eq (tgt := 39) hx hb dX5_route_27 (by decide) (fun _ => ?_) (fun c_27 => absurd (by decide) c_27)
        refine lv_iconst (v := 0) hx hb dX5_route_39 (by decide) ?_
        refine ck_cVw (As := [.int 0]) (rest := []) ⟨hx, hb, hml, hown, hts⟩ hKK (ct_X5_asks0 l G s.heap ad N F hW V L nc nr t hM) (cwV 1 hts gX5_route_X5_asks rfl rfl rfl (by decide +kernel) ⟨Nat.le_of_ble_eq_true rfl, Nat.le_of_ble_eq_true rfl⟩) (ck_recv hK hW (hM.n 30 (by decide) (by decide)) hM.f30 rfl) rfl hl rfl (Nat.le_of_ble_eq_true rfl) dX5_route_40 ⟨Nat.le_of_ble_eq_true rfl, Nat.le_of_ble_eq_true rfl⟩ hS (fun r_40 H locs h_40 hz_40 hS => ?_)
        have hKK := hKK0.keep hS.2.1
        obtain ⟨rfl, F_40, hW, hM, hs40⟩ := h_40
        have hsm := hsm.tr hs40
        refine lv_if_ne (tgt := 48) hx hb dX5_route_43 (by decide) (fun c_43 => absurd (by decide) c_43) (fun _ => ?_)
        refine lv_iconst (v := 0) hx hb dX5_route_46 (by decide) ?_
        exact W.iret (v := 0) hx hb hr (fun t ht hW9 => ⟨⟨_, rfl, by rw [ht]; exact ⟨_, F_40, Or.inl ⟨fun z => h_24 z.2.2.1, rfl⟩, hW, hM, hsm⟩⟩, hS.F ht⟩) hS.2.2 dX5_route_47
    · skip
      refine lv_if_eq (tgt := 39) hx hb dX5_route_16 (by decide) (fun _ => ?_) (fun c_16 => absurd (by decide) c_16)
      refine lv_iconst (v := 0) hx hb dX5_route_39 (by decide) ?_
      refine ck_cVw (As := [.int 0]) (rest := []) ⟨hx, hb, hml, hown, hts⟩ hKK (ct_X5_asks0 l G s.heap ad N F hW V L nc nr t hM) (cwV 1 hts gX5_route_X5_asks rfl rfl rfl (by decide +kernel) ⟨Nat.le_of_ble_eq_true rfl, Nat.le_of_ble_eq_true rfl⟩) (ck_recv hK hW (hM.n 30 (by decide) (by decide)) hM.f30 rfl) rfl hl rfl (Nat.le_of_ble_eq_true rfl) dX5_route_40 ⟨Nat.le_of_ble_eq_true rfl, Nat.le_of_ble_eq_true rfl⟩ hS (fun r_40 H locs h_40 hz_40 hS => ?_)
      have hKK := hKK0.keep hS.2.1
      obtain ⟨rfl, F_40, hW, hM, hs40⟩ := h_40
      have hsm := hsm.tr hs40
      refine lv_if_ne (tgt := 48) hx hb dX5_route_43 (by decide) (fun c_43 => absurd (by decide) c_43) (fun _ => ?_)
      refine lv_iconst (v := 0) hx hb dX5_route_46 (by decide) ?_
      exact W.iret (v := 0) hx hb hr (fun t ht hW9 => ⟨⟨_, rfl, by rw [ht]; exact ⟨_, F_40, Or.inl ⟨fun z => h_13 z.2.1, rfl⟩, hW, hM, hsm⟩⟩, hS.F ht⟩) hS.2.2 dX5_route_47
  · skip
    refine lv_if_eq (tgt := 39) hx hb dX5_route_5 (by decide) (fun _ => ?_) (fun c_5 => absurd (by decide) c_5)
    refine lv_iconst (v := 0) hx hb dX5_route_39 (by decide) ?_
    refine ck_cVw (As := [.int 0]) (rest := []) ⟨hx, hb, hml, hown, hts⟩ hKK (ct_X5_asks0 l G s.heap ad N F hW V L nc nr t hM) (cwV 1 hts gX5_route_X5_asks rfl rfl rfl (by decide +kernel) ⟨Nat.le_of_ble_eq_true rfl, Nat.le_of_ble_eq_true rfl⟩) (ck_recv hK hW (hM.n 30 (by decide) (by decide)) hM.f30 rfl) rfl hl rfl (Nat.le_of_ble_eq_true rfl) dX5_route_40 ⟨Nat.le_of_ble_eq_true rfl, Nat.le_of_ble_eq_true rfl⟩ hS (fun r_40 H locs h_40 hz_40 hS => ?_)
    have hKK := hKK0.keep hS.2.1
    obtain ⟨rfl, F_40, hW, hM, hs40⟩ := h_40
    have hsm := hsm.tr hs40
    refine lv_if_ne (tgt := 48) hx hb dX5_route_43 (by decide) (fun c_43 => absurd (by decide) c_43) (fun _ => ?_)
    refine lv_iconst (v := 0) hx hb dX5_route_46 (by decide) ?_
    exact W.iret (v := 0) hx hb hr (fun t ht hW9 => ⟨⟨_, rfl, by rw [ht]; exact ⟨_, F_40, Or.inl ⟨fun z => h_2 z.1, rfl⟩, hW, hM, hsm⟩⟩, hS.F ht⟩) hS.2.2 dX5_route_47
