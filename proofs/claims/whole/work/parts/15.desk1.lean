def ck_mt (V : Nat → Nat → Int32) (b a0 a1 a2 a3 : Int32) (k : Nat) : Bool := decide (V 0 k = a1 ∧ V 3 k &&& ((1 : Int32) <<< (a0 &&& 31)) = 0 ∧ (ck_abs (a2 - V 1 k) ≤ b ∧ ck_abs (a3 - V 2 k) ≤ b))
def ck_jn (m : Nat → Bool) : Nat → Nat → Nat
  | k, 0 => k
  | k, n + 1 => if m k = true then k else ck_jn m (k + 1) n
theorem ck_jn_go {m : Nat → Bool} {nc k z : Nat} (hk : k < nc) (hm : m k = false) (hI : ck_jn m (min k nc) (nc - k) = z) : ck_jn m (min (k + 1) nc) (nc - (k + 1)) = z := by
  rw [show min k nc = k by omega, show nc - k = (nc - (k + 1)) + 1 by omega] at hI
  rw [show min (k + 1) nc = k + 1 by omega, ← hI]; simp [ck_jn, hm]
theorem ck_jn_past {m : Nat → Bool} {nc k z : Nat} (hk : ¬ k < nc) (hI : ck_jn m (min k nc) (nc - k) = z) : ck_jn m (min (k + 1) nc) (nc - (k + 1)) = z := by
  rw [show min (k + 1) nc = min k nc by omega, show nc - (k + 1) = nc - k by omega]; exact hI
theorem ck_jn_hit {m : Nat → Bool} {nc k z : Nat} (hk : k < nc) (hm : m k = true) (hI : ck_jn m (min k nc) (nc - k) = z) : z = k := by
  rw [show min k nc = k by omega, show nc - k = (nc - (k + 1)) + 1 by omega] at hI
  rw [← hI]; simp [ck_jn, hm]
theorem ck_jn_end {m : Nat → Bool} {nc z : Nat} (hn : nc ≤ 60) (hI : ck_jn m (min 60 nc) (nc - 60) = z) : z = nc := by
  rw [show min 60 nc = nc by omega, show nc - 60 = 0 by omega] at hI
  exact hI.symm
set_option maxHeartbeats 4000000 in
set_option maxRecDepth 100000 in
theorem ct_X4_callJoinedBy (l : Launch) (G : ck_G) (H : Heap) (ad : Nat → Nat) (N : Nat → Prop) (F : Nat → va_E) (hW : ck_W G ad N F H) (V : Nat → Nat → Int32) (L : Nat → Nat → Int64) (nc nr : Nat) (hC : ck_C G ad V L nc nr N F) (a0 a1 a2 a3 : Int32) : Met l yX4_callJoinedBy wsX4_callJoinedBy ({ frames := 2, cells := 0, slots := 0, locals := 44 }) (ck_P G H [.ref (ad 0), .int a0, .int a1, .int a2, .int a3]) (va_Sq (fun r => (∃ j, j < nc ∧ ck_jn (ck_mt V (V 13 0) a0 a1 a2 a3) 0 nc = j ∧ r = some (ad (100 + j))) ∨ (ck_jn (ck_mt V (V 13 0) a0 a1 a2 a3) 0 nc = nc ∧ r = none))) 0 0 (fun _ => False) := by
  refine Met.ofW (cc := cX4_callJoinedBy) (maxL := 9) (ret := (some (.object "CarrierDesk$Call"))) (by decide) rfl ?_
  intro p e s m args below meth c s₁ B hml hv
  obtain ⟨rfl, hH, hKK⟩ := hv
  subst hH
  have hx := B.exec
  have hb := B.bytes
  have hr := B.returns
  have hts := atoms_spec (ws := wsX4_callJoinedBy) B.pre
  have hown : s.vm.findClass RX4 = some m.cls := findClass_of_methodNamed B.named
  have hlocks := B.notSynchronized
  have hKK0 := hKK
  have hK := hKK.1.1
  have hinX4 : ∀ w ∈ u_ws RX4 TX4 8, w ∈ wsX4_callJoinedBy := by decide +kernel
  have hinX0 : ∀ w ∈ u_ws RX0 TX0 8, w ∈ wsX4_callJoinedBy := by decide +kernel
  have hl := lv_entry ([.ref (ad 0), .int a0, .int a1, .int a2, .int a3]) (n := 9) (Nat.le_of_ble_eq_true rfl)
  rw [lg_entry_eq]
  generalize (lg_sl ([.ref (ad 0), .int a0, .int a1, .int a2, .int a3]) ++ List.replicate (9 - (lg_sl ([.ref (ad 0), .int a0, .int a1, .int a2, .int a3])).length) Slot.unset).toArray = ls at hl ⊢
  have hl : lv_has ls 9 [(0, .ref (ad 0)), (1, .int a0), (2, .int a1), (3, .int a2), (4, .int a3)] := hl
  obtain ⟨g2, hG2, hg2⟩ := hC.f2
  refine lv_aload_n hx hb dX4_callJoinedBy_0 rfl (lv_at hl 0 rfl) ?_
  refine ck_get (v := .ref (ad 2)) hx hb hts hinX4 hown hK hW (hC.n 0 (by decide)) hC.f0 rfl 1 (by decide) (hts _ (List.mem_of_getElem? (i := 1) rfl)) rfl rfl dX4_callJoinedBy_1 ?_
  refine lv_astore (lv' := [(5, .ref (ad 2)), (0, .ref (ad 0)), (1, .int a0), (2, .int a1), (3, .int a2), (4, .int a3)]) hx hb dX4_callJoinedBy_4 hl (by decide) rfl (fun ls hl => ?_)
  refine lv_aload hx hb dX4_callJoinedBy_6 (lv_at hl 0 rfl) ?_
  refine ck_alen (v := 60) hx hb hK hW (hC.n 2 (by decide)) hG2 2 rfl rfl dX4_callJoinedBy_8 ?_
  refine lv_istore (lv' := [(6, .int 60), (5, .ref (ad 2)), (0, .ref (ad 0)), (1, .int a0), (2, .int a1), (3, .int a2), (4, .int a3)]) hx hb dX4_callJoinedBy_9 hl (by decide) rfl (fun ls hl => ?_)
  refine lv_iconst (v := 0) hx hb dX4_callJoinedBy_11 (by decide) ?_
  refine lv_istore (lv' := [(7, .int 0), (6, .int 60), (5, .ref (ad 2)), (0, .ref (ad 0)), (1, .int a0), (2, .int a1), (3, .int a2), (4, .int a3)]) hx hb dX4_callJoinedBy_12 hl (by decide) rfl (fun ls hl => ?_)
  refine ck_loop (P := fun ls => W p l e _ s m _ below meth c _ _ _ _ _ (F0 m _ ls _)) 60 (fun k => [(7, .int (nI k)), (6, .int 60), (5, .ref (ad 2)), (0, .ref (ad 0)), (1, .int a0), (2, .int a1), (3, .int a2), (4, .int a3)]) (fun k => ck_jn (ck_mt V (V 13 0) a0 a1 a2 a3) (min k nc) (nc - k) = ck_jn (ck_mt V (V 13 0) a0 a1 a2 a3) 0 nc) (lv_sub hl [0, 1, 2, 3, 4, 5, 6, 7] rfl) (by rw [Nat.zero_min]; rfl) ?_ ?_
  · intro ls hl hI14
    have hl : lv_has ls 9 [(7, .int (nI 60)), (6, .int 60), (5, .ref (ad 2)), (0, .ref (ad 0)), (1, .int a0), (2, .int a1), (3, .int a2), (4, .int a3)] := hl
    refine lv_iload hx hb dX4_callJoinedBy_14 (lv_at hl 0 rfl) ?_
    refine lv_iload hx hb dX4_callJoinedBy_16 (lv_at hl 1 rfl) ?_
    refine lv_icmp_ge (tgt := 75) hx hb dX4_callJoinedBy_18 (by decide) (fun _ => ?_) (fun c_18 => absurd (Int32.le_refl _) c_18)
    refine lv_null hx hb dX4_callJoinedBy_75 ?_
    exact W.aret (v := va_rf (none)) hx hb hr (Or.inl ⟨_, rfl⟩) (va_rf_or _) (fun t ht hW9 => ⟨none, rfl, Or.inr ⟨ck_jn_end hC.nc hI14, rfl⟩, ht⟩) (fun _ h => nomatch h) dX4_callJoinedBy_76
  · intro k14 hk14 hI14 ih14 ls hl
    have hl : lv_has ls 9 [(7, .int (nI k14)), (6, .int 60), (5, .ref (ad 2)), (0, .ref (ad 0)), (1, .int a0), (2, .int a1), (3, .int a2), (4, .int a3)] := hl
    refine lv_iload hx hb dX4_callJoinedBy_14 (lv_at hl 0 rfl) ?_
    refine lv_iload hx hb dX4_callJoinedBy_16 (lv_at hl 1 rfl) ?_
    refine lv_icmp_ge (tgt := 75) hx hb dX4_callJoinedBy_18 (by decide) (fun c_18 => absurd c_18 (nI_ge hk14 (by decide))) (fun _ => ?_)
    refine lv_aload hx hb dX4_callJoinedBy_21 (lv_at hl 2 rfl) ?_
    refine lv_iload hx hb dX4_callJoinedBy_23 (lv_at hl 0 rfl) ?_
    by_cases hkn : k14 < nc
    · skip
      refine ck_aald hx hb hK hW (hC.n 2 (by decide)) hG2 2 rfl k14 (rfl) (hk14) (by decide) (r := some (ad (100 + k14))) (by rw [hg2 k14 hk14, if_pos hkn]) dX4_callJoinedBy_25 ?_
      refine lv_astore (lv' := [(8, .ref (ad (100 + k14))), (7, .int (nI k14)), (6, .int 60), (5, .ref (ad 2)), (0, .ref (ad 0)), (1, .int a0), (2, .int a1), (3, .int a2), (4, .int a3)]) hx hb dX4_callJoinedBy_26 hl (by decide) rfl (fun ls hl => ?_)
      refine lv_aload hx hb dX4_callJoinedBy_28 (lv_at hl 0 rfl) ?_
      refine lv_ifnull hx hb dX4_callJoinedBy_30 ?_
      refine lv_aload hx hb dX4_callJoinedBy_33 (lv_at hl 0 rfl) ?_
      refine ck_get (v := .int (V 0 k14)) hx hb hts hinX0 hown hK hW (hC.ncall k14 hkn) (hC.call k14 hkn) rfl 1 (by decide) (hts _ (List.mem_of_getElem? (i := 2) rfl)) rfl rfl dX4_callJoinedBy_35 ?_
      refine lv_iload_n hx hb dX4_callJoinedBy_38 rfl (lv_at hl 6 rfl) ?_
      refine lv_icmp_ne (tgt := 69) hx hb dX4_callJoinedBy_39 (by decide) (fun c_39 => ?_) (fun c_39 => ?_)
      · skip
        refine lv_iinc (v := nI (k14 + 1)) (lv' := [(7, .int (nI (k14 + 1))), (8, .ref (ad (100 + k14))), (6, .int 60), (5, .ref (ad 2)), (0, .ref (ad 0)), (1, .int a0), (2, .int a1), (3, .int a2), (4, .int a3)]) hx hb dX4_callJoinedBy_69 hl (k := 1) rfl (nI_1 k14) (by decide) rfl (fun ls hl => ?_)
        refine lv_goto (tgt := 14) hx hb dX4_callJoinedBy_72 (by decide) ?_
        exact ih14 ls (lv_sub hl [0, 2, 3, 4, 5, 6, 7, 8] rfl) (ck_jn_go hkn (decide_eq_false fun z => c_39 z.1) hI14)
      · skip
        refine lv_aload hx hb dX4_callJoinedBy_42 (lv_at hl 0 rfl) ?_
        refine lv_iload_n hx hb dX4_callJoinedBy_44 rfl (lv_at hl 5 rfl) ?_
        refine ck_cVi (As := [.int a0]) (rest := []) ⟨hx, hb, hml, hown, hts⟩ hKK (ct_X0_hasLegFrom l G s.heap ad N F hW (100 + k14) (hC.ncall k14 hkn) ((nI k14)) ((V 0 k14)) ((V 1 k14)) ((V 2 k14)) ((V 3 k14)) ((V 4 k14)) ((V 5 k14)) ((V 6 k14)) (hC.call k14 hkn) a0) (cwV 1 hts gX4_callJoinedBy_X0_hasLegFrom rfl rfl rfl (by decide +kernel) ⟨Nat.le_of_ble_eq_true rfl, Nat.le_of_ble_eq_true rfl⟩) (ck_recv hK hW (hC.ncall k14 hkn) (hC.call k14 hkn) rfl) rfl hl rfl (Nat.le_of_ble_eq_true rfl) dX4_callJoinedBy_45 ⟨Nat.le_of_ble_eq_true rfl, Nat.le_of_ble_eq_true rfl⟩ (fun r_45 h_45 => ?_)
        rcases h_45 with ⟨h_45, rfl⟩ | ⟨h_45, rfl⟩
        · skip
          refine lv_if_ne (tgt := 69) hx hb dX4_callJoinedBy_48 (by decide) (fun _ => ?_) (fun c_48 => absurd c_48 (by decide))
          refine lv_iinc (v := nI (k14 + 1)) (lv' := [(7, .int (nI (k14 + 1))), (8, .ref (ad (100 + k14))), (6, .int 60), (5, .ref (ad 2)), (0, .ref (ad 0)), (1, .int a0), (2, .int a1), (3, .int a2), (4, .int a3)]) hx hb dX4_callJoinedBy_69 hl (k := 1) rfl (nI_1 k14) (by decide) rfl (fun ls hl => ?_)
          refine lv_goto (tgt := 14) hx hb dX4_callJoinedBy_72 (by decide) ?_
          exact ih14 ls (lv_sub hl [0, 2, 3, 4, 5, 6, 7, 8] rfl) (ck_jn_go hkn (decide_eq_false fun z => h_45 z.2.1) hI14)
        · skip
          refine lv_if_ne (tgt := 69) hx hb dX4_callJoinedBy_48 (by decide) (fun c_48 => absurd (by decide) c_48) (fun _ => ?_)
          refine lv_aload hx hb dX4_callJoinedBy_51 (lv_at hl 0 rfl) ?_
          refine lv_aload_n hx hb dX4_callJoinedBy_53 rfl (lv_at hl 4 rfl) ?_
          refine ck_get (v := .int (V 13 0)) hx hb hts hinX4 hown hK hW (hC.n 0 (by decide)) hC.f0 rfl 3 (by decide) (hts _ (List.mem_of_getElem? (i := 3) rfl)) rfl rfl dX4_callJoinedBy_54 ?_
          refine lv_iload_n hx hb dX4_callJoinedBy_57 rfl (lv_at hl 7 rfl) ?_
          refine lv_iload hx hb dX4_callJoinedBy_58 (lv_at hl 8 rfl) ?_
          refine ck_cVi (As := [.int (V 13 0), .int a2, .int a3]) (rest := []) ⟨hx, hb, hml, hown, hts⟩ hKK (ct_X0_beganWithin l G s.heap ad N F hW (100 + k14) (hC.ncall k14 hkn) ((nI k14)) ((V 0 k14)) ((V 1 k14)) ((V 2 k14)) ((V 3 k14)) ((V 4 k14)) ((V 5 k14)) ((V 6 k14)) (hC.call k14 hkn) ((V 13 0)) a2 a3) (cwV 3 hts gX4_callJoinedBy_X0_beganWithin rfl rfl rfl (by decide +kernel) ⟨Nat.le_of_ble_eq_true rfl, Nat.le_of_ble_eq_true rfl⟩) (ck_recv hK hW (hC.ncall k14 hkn) (hC.call k14 hkn) rfl) rfl hl rfl (Nat.le_of_ble_eq_true rfl) dX4_callJoinedBy_60 ⟨Nat.le_of_ble_eq_true rfl, Nat.le_of_ble_eq_true rfl⟩ (fun r_60 h_60 => ?_)
          rcases h_60 with ⟨h_60, rfl⟩ | ⟨h_60, rfl⟩
          · skip
            refine lv_if_eq (tgt := 69) hx hb dX4_callJoinedBy_63 (by decide) (fun c_63 => absurd c_63 (by decide)) (fun _ => ?_)
            refine lv_aload hx hb dX4_callJoinedBy_66 (lv_at hl 0 rfl) ?_
            exact W.aret (v := va_rf (some ((ad (100 + k14))))) hx hb hr (Or.inl ⟨_, rfl⟩) (va_rf_or _) (fun t ht hW9 => ⟨some ((ad (100 + k14))), rfl, Or.inl ⟨k14, hkn, ck_jn_hit hkn (decide_eq_true ⟨c_39, Decidable.not_not.mp h_45, h_60⟩) hI14, rfl⟩, ht⟩) (fun _ h => nomatch h) dX4_callJoinedBy_68
          · skip
            refine lv_if_eq (tgt := 69) hx hb dX4_callJoinedBy_63 (by decide) (fun _ => ?_) (fun c_63 => absurd (by decide) c_63)
            refine lv_iinc (v := nI (k14 + 1)) (lv' := [(7, .int (nI (k14 + 1))), (8, .ref (ad (100 + k14))), (6, .int 60), (5, .ref (ad 2)), (0, .ref (ad 0)), (1, .int a0), (2, .int a1), (3, .int a2), (4, .int a3)]) hx hb dX4_callJoinedBy_69 hl (k := 1) rfl (nI_1 k14) (by decide) rfl (fun ls hl => ?_)
            refine lv_goto (tgt := 14) hx hb dX4_callJoinedBy_72 (by decide) ?_
            exact ih14 ls (lv_sub hl [0, 2, 3, 4, 5, 6, 7, 8] rfl) (ck_jn_go hkn (decide_eq_false fun z => h_60 z.2.2) hI14)
    · skip
      refine ck_aald hx hb hK hW (hC.n 2 (by decide)) hG2 2 rfl k14 (rfl) (hk14) (by decide) (r := none) (by rw [hg2 k14 hk14, if_neg hkn]) dX4_callJoinedBy_25 ?_
      refine lv_astoreN (lv' := [(8, .null), (7, .int (nI k14)), (6, .int 60), (5, .ref (ad 2)), (0, .ref (ad 0)), (1, .int a0), (2, .int a1), (3, .int a2), (4, .int a3)]) hx hb dX4_callJoinedBy_26 hl (by decide) rfl (fun ls hl => ?_)
      refine lv_aloadN hx hb dX4_callJoinedBy_28 (lv_at hl 0 rfl) ?_
      refine lv_ifnullN (tgt := 69) hx hb dX4_callJoinedBy_30 (by decide) ?_
      refine lv_iinc (v := nI (k14 + 1)) (lv' := [(7, .int (nI (k14 + 1))), (8, .null), (6, .int 60), (5, .ref (ad 2)), (0, .ref (ad 0)), (1, .int a0), (2, .int a1), (3, .int a2), (4, .int a3)]) hx hb dX4_callJoinedBy_69 hl (k := 1) rfl (nI_1 k14) (by decide) rfl (fun ls hl => ?_)
      refine lv_goto (tgt := 14) hx hb dX4_callJoinedBy_72 (by decide) ?_
      exact ih14 ls (lv_sub hl [0, 2, 3, 4, 5, 6, 7, 8] rfl) (ck_jn_past hkn hI14)
def ck_over (V : Nat → Nat → Int32) (k : Nat) : Option Nat → Bool
  | none => true
  | some b => decide (V 7 b < V 7 k ∨ (V 7 b = V 7 k ∧ V 8 b ≤ V 8 k))
def ck_best (V : Nat → Nat → Int32) (x d : Int32) : Nat → Option Nat
  | 0 => none
  | k + 1 => if V 8 k ≤ d ∧ ck_fit (V 7 k) x = true ∧ ck_over V k (ck_best V x d k) = true then some k else ck_best V x d k
theorem ck_best_lt {V : Nat → Nat → Int32} {x d : Int32} : ∀ {n b : Nat}, ck_best V x d n = some b → b < n
  | 0, b, h => by simp [ck_best] at h
  | n + 1, b, h => by
    by_cases c : V 8 n ≤ d ∧ ck_fit (V 7 n) x = true ∧ ck_over V n (ck_best V x d n) = true
    · simp only [ck_best, if_pos c] at h; cases h; omega
    · simp only [ck_best, if_neg c] at h; have := ck_best_lt h; omega
theorem ck_best_yes {V : Nat → Nat → Int32} {x d : Int32} {k nr : Nat} (hk : k < nr) (h1 : V 8 k ≤ d) (h2 : ck_fit (V 7 k) x = true) (h3 : ck_over V k (ck_best V x d (min k nr)) = true) : ck_best V x d (min (k + 1) nr) = some k := by
  rw [show min k nr = k by omega] at h3
  rw [show min (k + 1) nr = k + 1 by omega]
  simp only [ck_best]; rw [if_pos ⟨h1, h2, h3⟩]
theorem ck_best_no {V : Nat → Nat → Int32} {x d : Int32} {k nr : Nat} (hk : k < nr) (h : ¬ (V 8 k ≤ d ∧ ck_fit (V 7 k) x = true ∧ ck_over V k (ck_best V x d (min k nr)) = true)) : ck_best V x d (min (k + 1) nr) = ck_best V x d (min k nr) := by
  rw [show min k nr = k by omega] at h ⊢
  rw [show min (k + 1) nr = k + 1 by omega]
  simp only [ck_best]; rw [if_neg h]
theorem ck_best_past {V : Nat → Nat → Int32} {x d : Int32} {k nr : Nat} (hk : ¬ k < nr) : ck_best V x d (min (k + 1) nr) = ck_best V x d (min k nr) := by rw [show min (k + 1) nr = min k nr by omega]
theorem ck_bef_over {V : Nat → Nat → Int32} {k b : Nat} (h : b < k) (hk : k < 2 ^ 31) : ck_bef (nI k) (V 7 k) (V 8 k) (nI b) (V 7 b) (V 8 b) ↔ ck_over V k (some b) = true := by
  have h0 : nI b < nI k := nI_lt h hk
  simp only [ck_bef, ck_over, decide_eq_true_eq]
  by_cases c : V 7 k = V 7 b
  · rw [if_pos c]
    by_cases d : V 8 k = V 8 b
    · rw [if_pos d]; exact ⟨fun _ => Or.inr ⟨c.symm, by rw [d]; exact Int32.le_refl _⟩, fun _ => h0⟩
    · rw [if_neg d]
      refine ⟨fun z => Or.inr ⟨c.symm, Int32.le_of_lt z⟩, fun z => ?_⟩
      rcases z with z | z
      · rw [c] at z; exact absurd z Int32.lt_irrefl
      · exact Int32.lt_of_le_of_ne z.2 (fun e => d e.symm)
  · rw [if_neg c]
    refine ⟨fun z => Or.inl z, fun z => ?_⟩
    rcases z with z | z
    · exact z
    · exact absurd z.1.symm c
set_option maxHeartbeats 4000000 in
set_option maxRecDepth 100000 in
theorem ct_X4_rateInForce (l : Launch) (G : ck_G) (H : Heap) (ad : Nat → Nat) (N : Nat → Prop) (F : Nat → va_E) (hW : ck_W G ad N F H) (V : Nat → Nat → Int32) (L : Nat → Nat → Int64) (nc nr : Nat) (hC : ck_C G ad V L nc nr N F) (a0 a1 : Int32) : Met l yX4_rateInForce wsX4_rateInForce ({ frames := 1, cells := 0, slots := 0, locals := 23 }) (ck_P G H [.ref (ad 0), .int a0, .int a1]) (va_Sq (fun r => (∃ b, b < nr ∧ ck_best V a0 a1 nr = some b ∧ r = some (ad (200 + b))) ∨ (ck_best V a0 a1 nr = none ∧ r = none))) 0 0 (fun _ => False) := by
  refine Met.ofW (cc := cX4_rateInForce) (maxL := 8) (ret := (some (.object "CarrierDesk$Rate"))) (by decide) rfl ?_
  intro p e s m args below meth c s₁ B hml hv
  obtain ⟨rfl, hH, hKK⟩ := hv
  subst hH
  have hx := B.exec
  have hb := B.bytes
  have hr := B.returns
  have hts := atoms_spec (ws := wsX4_rateInForce) B.pre
  have hown : s.vm.findClass RX4 = some m.cls := findClass_of_methodNamed B.named
  have hlocks := B.notSynchronized
  have hKK0 := hKK
  have hK := hKK.1.1
  have hinX4 : ∀ w ∈ u_ws RX4 TX4 8, w ∈ wsX4_rateInForce := by decide +kernel
  have hinX2 : ∀ w ∈ u_ws RX2 TX2 7, w ∈ wsX4_rateInForce := by decide +kernel
  have hl := lv_entry ([.ref (ad 0), .int a0, .int a1]) (n := 8) (Nat.le_of_ble_eq_true rfl)
  rw [lg_entry_eq]
  generalize (lg_sl ([.ref (ad 0), .int a0, .int a1]) ++ List.replicate (8 - (lg_sl ([.ref (ad 0), .int a0, .int a1])).length) Slot.unset).toArray = ls at hl ⊢
  have hl : lv_has ls 8 [(0, .ref (ad 0)), (1, .int a0), (2, .int a1)] := hl
  obtain ⟨g3, hG3, hg3⟩ := hC.f3
  refine lv_null hx hb dX4_rateInForce_0 ?_
  refine lv_astore_nN (lv' := [(3, .null), (0, .ref (ad 0)), (1, .int a0), (2, .int a1)]) hx hb dX4_rateInForce_1 rfl hl (by decide) rfl (fun ls hl => ?_)
  refine lv_aload_n hx hb dX4_rateInForce_2 rfl (lv_at hl 1 rfl) ?_
  refine ck_get (v := .ref (ad 3)) hx hb hts hinX4 hown hK hW (hC.n 0 (by decide)) hC.f0 rfl 4 (by decide) (hts _ (List.mem_of_getElem? (i := 1) rfl)) rfl rfl dX4_rateInForce_3 ?_
  refine lv_astore (lv' := [(4, .ref (ad 3)), (3, .null), (0, .ref (ad 0)), (1, .int a0), (2, .int a1)]) hx hb dX4_rateInForce_6 hl (by decide) rfl (fun ls hl => ?_)
  refine lv_aload hx hb dX4_rateInForce_8 (lv_at hl 0 rfl) ?_
  refine ck_alen (v := 30) hx hb hK hW (hC.n 3 (by decide)) hG3 4 rfl rfl dX4_rateInForce_10 ?_
  refine lv_istore (lv' := [(5, .int 30), (4, .ref (ad 3)), (3, .null), (0, .ref (ad 0)), (1, .int a0), (2, .int a1)]) hx hb dX4_rateInForce_11 hl (by decide) rfl (fun ls hl => ?_)
  refine lv_iconst (v := 0) hx hb dX4_rateInForce_13 (by decide) ?_
  refine lv_istore (lv' := [(6, .int 0), (5, .int 30), (4, .ref (ad 3)), (3, .null), (0, .ref (ad 0)), (1, .int a0), (2, .int a1)]) hx hb dX4_rateInForce_14 hl (by decide) rfl (fun ls hl => ?_)
  have hl : lv_has ls 8 [(6, .int 0), (5, .int 30), (4, .ref (ad 3)), (3, va_rf ((ck_best V a0 a1 (min 0 nr)).map (fun b => ad (200 + b)))), (0, .ref (ad 0)), (1, .int a0), (2, .int a1)] := by rw [Nat.zero_min]; exact hl
  refine ck_loop (P := fun ls => W p l e _ s m _ below meth c _ _ _ _ _ (F0 m _ ls _)) 30 (fun k => [(6, .int (nI k)), (5, .int 30), (4, .ref (ad 3)), (3, va_rf ((ck_best V a0 a1 (min k nr)).map (fun b => ad (200 + b)))), (0, .ref (ad 0)), (1, .int a0), (2, .int a1)]) (fun k => True) (lv_sub hl [0, 1, 2, 3, 4, 5, 6] rfl) (trivial) ?_ ?_
  · intro ls hl hI16
    have hl : lv_has ls 8 [(6, .int (nI 30)), (5, .int 30), (4, .ref (ad 3)), (3, va_rf ((ck_best V a0 a1 (min 30 nr)).map (fun b => ad (200 + b)))), (0, .ref (ad 0)), (1, .int a0), (2, .int a1)] := hl
    refine lv_iload hx hb dX4_rateInForce_16 (lv_at hl 0 rfl) ?_
    refine lv_iload hx hb dX4_rateInForce_18 (lv_at hl 1 rfl) ?_
    refine lv_icmp_ge (tgt := 78) hx hb dX4_rateInForce_20 (by decide) (fun _ => ?_) (fun c_20 => absurd (Int32.le_refl _) c_20)
    have e9 : min 30 nr = nr := by have := hC.nr; omega
    rw [e9] at hl
    obtain ⟨ob, hob⟩ : ∃ ob, ck_best V a0 a1 nr = ob := ⟨_, rfl⟩
    rw [hob] at hl
    rcases ob with _ | b
    · skip
      have hl : lv_has ls 8 [(6, .int (nI 30)), (5, .int 30), (4, .ref (ad 3)), (3, .null), (0, .ref (ad 0)), (1, .int a0), (2, .int a1)] := hl
      refine lv_aload_nN hx hb dX4_rateInForce_78 rfl (lv_at hl 3 rfl) ?_
      exact W.aret (v := va_rf (none)) hx hb hr (Or.inl ⟨_, rfl⟩) (va_rf_or _) (fun t ht hW9 => ⟨none, rfl, Or.inr ⟨hob, rfl⟩, ht⟩) (fun _ h => nomatch h) dX4_rateInForce_79
    · skip
      have hl : lv_has ls 8 [(6, .int (nI 30)), (5, .int 30), (4, .ref (ad 3)), (3, .ref (ad (200 + b))), (0, .ref (ad 0)), (1, .int a0), (2, .int a1)] := hl
      refine lv_aload_n hx hb dX4_rateInForce_78 rfl (lv_at hl 3 rfl) ?_
      exact W.aret (v := va_rf (some ((ad (200 + b))))) hx hb hr (Or.inl ⟨_, rfl⟩) (va_rf_or _) (fun t ht hW9 => ⟨some ((ad (200 + b))), rfl, Or.inl ⟨b, ck_best_lt hob, hob, rfl⟩, ht⟩) (fun _ h => nomatch h) dX4_rateInForce_79
  · intro k16 hk16 hI16 ih16 ls hl
    have hl : lv_has ls 8 [(6, .int (nI k16)), (5, .int 30), (4, .ref (ad 3)), (3, va_rf ((ck_best V a0 a1 (min k16 nr)).map (fun b => ad (200 + b)))), (0, .ref (ad 0)), (1, .int a0), (2, .int a1)] := hl
    refine lv_iload hx hb dX4_rateInForce_16 (lv_at hl 0 rfl) ?_
    refine lv_iload hx hb dX4_rateInForce_18 (lv_at hl 1 rfl) ?_
    refine lv_icmp_ge (tgt := 78) hx hb dX4_rateInForce_20 (by decide) (fun c_20 => absurd c_20 (nI_ge hk16 (by decide))) (fun _ => ?_)
    refine lv_aload hx hb dX4_rateInForce_23 (lv_at hl 2 rfl) ?_
    refine lv_iload hx hb dX4_rateInForce_25 (lv_at hl 0 rfl) ?_
    by_cases hkn : k16 < nr
    · skip
      refine ck_aald hx hb hK hW (hC.n 3 (by decide)) hG3 4 rfl k16 (rfl) (hk16) (by decide) (r := some (ad (200 + k16))) (by rw [hg3 k16 hk16, if_pos hkn]) dX4_rateInForce_27 ?_
      refine lv_astore (lv' := [(7, .ref (ad (200 + k16))), (6, .int (nI k16)), (5, .int 30), (4, .ref (ad 3)), (3, va_rf ((ck_best V a0 a1 (min k16 nr)).map (fun b => ad (200 + b)))), (0, .ref (ad 0)), (1, .int a0), (2, .int a1)]) hx hb dX4_rateInForce_28 hl (by decide) rfl (fun ls hl => ?_)
      refine lv_aload hx hb dX4_rateInForce_30 (lv_at hl 0 rfl) ?_
      refine lv_ifnull hx hb dX4_rateInForce_32 ?_
      refine lv_aload hx hb dX4_rateInForce_35 (lv_at hl 0 rfl) ?_
      refine ck_get (v := .int (V 8 k16)) hx hb hts hinX2 hown hK hW (hC.nrate k16 hkn) (hC.rate k16 hkn) rfl 2 (by decide) (hts _ (List.mem_of_getElem? (i := 2) rfl)) rfl rfl dX4_rateInForce_37 ?_
      refine lv_iload_n hx hb dX4_rateInForce_40 rfl (lv_at hl 7 rfl) ?_
      refine lv_icmp_gt (tgt := 72) hx hb dX4_rateInForce_41 (by decide) (fun c_41 => ?_) (fun c_41 => ?_)
      · skip
        refine lv_iinc (v := nI (k16 + 1)) (lv' := [(6, .int (nI (k16 + 1))), (7, .ref (ad (200 + k16))), (5, .int 30), (4, .ref (ad 3)), (3, va_rf ((ck_best V a0 a1 (min k16 nr)).map (fun b => ad (200 + b)))), (0, .ref (ad 0)), (1, .int a0), (2, .int a1)]) hx hb dX4_rateInForce_72 hl (k := 1) rfl (nI_1 k16) (by decide) rfl (fun ls hl => ?_)
        refine lv_goto (tgt := 16) hx hb dX4_rateInForce_75 (by decide) ?_
        have e9 := ck_best_no (x := a0) (d := a1) hkn (fun z => absurd z.1 (Int32.not_le.mpr c_41))
        have hl : lv_has ls 8 [(6, .int (nI (k16 + 1))), (7, .ref (ad (200 + k16))), (5, .int 30), (4, .ref (ad 3)), (3, va_rf ((ck_best V a0 a1 (min (k16 + 1) nr)).map (fun b => ad (200 + b)))), (0, .ref (ad 0)), (1, .int a0), (2, .int a1)] := by rw [e9]; exact hl
        exact ih16 ls (lv_sub hl [0, 2, 3, 4, 5, 6, 7] rfl) (trivial)
      · skip
        refine lv_aload hx hb dX4_rateInForce_44 (lv_at hl 0 rfl) ?_
        refine ck_get (v := .int (V 7 k16)) hx hb hts hinX2 hown hK hW (hC.nrate k16 hkn) (hC.rate k16 hkn) rfl 1 (by decide) (hts _ (List.mem_of_getElem? (i := 3) rfl)) rfl rfl dX4_rateInForce_46 ?_
        refine lv_iload_n hx hb dX4_rateInForce_49 rfl (lv_at hl 6 rfl) ?_
        refine ck_cSi (As := [.int (V 7 k16), .int a0]) (rest := []) ⟨hx, hb, hml, hown, hts⟩ hKK (ct_X4_fits l G s.heap ((V 7 k16)) a0) (va_cwS 2 hts gX4_rateInForce_X4_fits rfl rfl rfl (by decide +kernel) ⟨Nat.le_of_ble_eq_true rfl, Nat.le_of_ble_eq_true rfl⟩) rfl hl rfl (Nat.le_of_ble_eq_true rfl) dX4_rateInForce_50 ⟨Nat.le_of_ble_eq_true rfl, Nat.le_of_ble_eq_true rfl⟩ (fun r_50 h_50 => ?_)
        rcases h_50 with ⟨h_50, rfl⟩ | ⟨h_50, rfl⟩
        · skip
          refine lv_if_eq (tgt := 72) hx hb dX4_rateInForce_53 (by decide) (fun c_53 => absurd c_53 (by decide)) (fun _ => ?_)
          obtain ⟨ob, hob⟩ : ∃ ob, ck_best V a0 a1 (min k16 nr) = ob := ⟨_, rfl⟩
          rw [hob] at hl
          rcases ob with _ | b
          · skip
            have hl : lv_has ls 8 [(7, .ref (ad (200 + k16))), (6, .int (nI k16)), (5, .int 30), (4, .ref (ad 3)), (3, .null), (0, .ref (ad 0)), (1, .int a0), (2, .int a1)] := hl
            refine lv_aload_nN hx hb dX4_rateInForce_56 rfl (lv_at hl 4 rfl) ?_
            refine lv_ifnullN (tgt := 69) hx hb dX4_rateInForce_57 (by decide) ?_
            refine lv_aload hx hb dX4_rateInForce_69 (lv_at hl 0 rfl) ?_
            refine lv_astore_n (lv' := [(3, .ref (ad (200 + k16))), (7, .ref (ad (200 + k16))), (6, .int (nI k16)), (5, .int 30), (4, .ref (ad 3)), (0, .ref (ad 0)), (1, .int a0), (2, .int a1)]) hx hb dX4_rateInForce_71 rfl hl (by decide) rfl (fun ls hl => ?_)
            refine lv_iinc (v := nI (k16 + 1)) (lv' := [(6, .int (nI (k16 + 1))), (3, .ref (ad (200 + k16))), (7, .ref (ad (200 + k16))), (5, .int 30), (4, .ref (ad 3)), (0, .ref (ad 0)), (1, .int a0), (2, .int a1)]) hx hb dX4_rateInForce_72 hl (k := 2) rfl (nI_1 k16) (by decide) rfl (fun ls hl => ?_)
            refine lv_goto (tgt := 16) hx hb dX4_rateInForce_75 (by decide) ?_
            have e9 := ck_best_yes hkn (Int32.not_lt.mp c_41) h_50 (by rw [hob]; rfl)
            have hl : lv_has ls 8 [(6, .int (nI (k16 + 1))), (3, va_rf ((ck_best V a0 a1 (min (k16 + 1) nr)).map (fun b => ad (200 + b)))), (7, .ref (ad (200 + k16))), (5, .int 30), (4, .ref (ad 3)), (0, .ref (ad 0)), (1, .int a0), (2, .int a1)] := by rw [e9]; exact hl
            exact ih16 ls (lv_sub hl [0, 3, 4, 1, 5, 6, 7] rfl) (trivial)
          · skip
            have hbk : b < k16 := by have := ck_best_lt hob; omega
            have hbn : b < nr := by omega
            have hl : lv_has ls 8 [(7, .ref (ad (200 + k16))), (6, .int (nI k16)), (5, .int 30), (4, .ref (ad 3)), (3, .ref (ad (200 + b))), (0, .ref (ad 0)), (1, .int a0), (2, .int a1)] := hl
            refine lv_aload_n hx hb dX4_rateInForce_56 rfl (lv_at hl 4 rfl) ?_
            refine lv_ifnull hx hb dX4_rateInForce_57 ?_
            refine lv_aload hx hb dX4_rateInForce_60 (lv_at hl 0 rfl) ?_
            refine lv_aload_n hx hb dX4_rateInForce_62 rfl (lv_at hl 4 rfl) ?_
            refine ck_cVi (As := [.ref (ad (200 + b))]) (rest := []) ⟨hx, hb, hml, hown, hts⟩ hKK (ct_X2_goesBefore l G s.heap ad N F hW (200 + k16) (hC.nrate k16 hkn) ((nI k16)) ((V 7 k16)) ((V 8 k16)) ((V 9 k16)) ((V 10 k16)) ((V 11 k16)) ((V 12 k16)) (hC.rate k16 hkn) (200 + b) (hC.nrate b hbn) ((nI b)) ((V 7 b)) ((V 8 b)) ((V 9 b)) ((V 10 b)) ((V 11 b)) ((V 12 b)) (hC.rate b hbn)) (cwV 1 hts gX4_rateInForce_X2_goesBefore rfl rfl rfl (by decide +kernel) ⟨Nat.le_of_ble_eq_true rfl, Nat.le_of_ble_eq_true rfl⟩) (ck_recv hK hW (hC.nrate k16 hkn) (hC.rate k16 hkn) rfl) rfl hl rfl (Nat.le_of_ble_eq_true rfl) dX4_rateInForce_63 ⟨Nat.le_of_ble_eq_true rfl, Nat.le_of_ble_eq_true rfl⟩ (fun r_63 h_63 => ?_)
            rcases h_63 with ⟨h_63, rfl⟩ | ⟨h_63, rfl⟩
            · skip
              refine lv_if_eq (tgt := 72) hx hb dX4_rateInForce_66 (by decide) (fun c_66 => absurd c_66 (by decide)) (fun _ => ?_)
              refine lv_aload hx hb dX4_rateInForce_69 (lv_at hl 0 rfl) ?_
              refine lv_astore_n (lv' := [(3, .ref (ad (200 + k16))), (7, .ref (ad (200 + k16))), (6, .int (nI k16)), (5, .int 30), (4, .ref (ad 3)), (0, .ref (ad 0)), (1, .int a0), (2, .int a1)]) hx hb dX4_rateInForce_71 rfl hl (by decide) rfl (fun ls hl => ?_)
              refine lv_iinc (v := nI (k16 + 1)) (lv' := [(6, .int (nI (k16 + 1))), (3, .ref (ad (200 + k16))), (7, .ref (ad (200 + k16))), (5, .int 30), (4, .ref (ad 3)), (0, .ref (ad 0)), (1, .int a0), (2, .int a1)]) hx hb dX4_rateInForce_72 hl (k := 2) rfl (nI_1 k16) (by decide) rfl (fun ls hl => ?_)
              refine lv_goto (tgt := 16) hx hb dX4_rateInForce_75 (by decide) ?_
              have e9 := ck_best_yes hkn (Int32.not_lt.mp c_41) h_50 (by rw [hob]; exact (ck_bef_over hbk (by omega)).mp h_63)
              have hl : lv_has ls 8 [(6, .int (nI (k16 + 1))), (3, va_rf ((ck_best V a0 a1 (min (k16 + 1) nr)).map (fun b => ad (200 + b)))), (7, .ref (ad (200 + k16))), (5, .int 30), (4, .ref (ad 3)), (0, .ref (ad 0)), (1, .int a0), (2, .int a1)] := by rw [e9]; exact hl
              exact ih16 ls (lv_sub hl [0, 3, 4, 1, 5, 6, 7] rfl) (trivial)
            · skip
              refine lv_if_eq (tgt := 72) hx hb dX4_rateInForce_66 (by decide) (fun _ => ?_) (fun c_66 => absurd (by decide) c_66)
              refine lv_iinc (v := nI (k16 + 1)) (lv' := [(6, .int (nI (k16 + 1))), (7, .ref (ad (200 + k16))), (5, .int 30), (4, .ref (ad 3)), (3, .ref (ad (200 + b))), (0, .ref (ad 0)), (1, .int a0), (2, .int a1)]) hx hb dX4_rateInForce_72 hl (k := 1) rfl (nI_1 k16) (by decide) rfl (fun ls hl => ?_)
              refine lv_goto (tgt := 16) hx hb dX4_rateInForce_75 (by decide) ?_
              have e9 := (ck_best_no (x := a0) (d := a1) hkn (fun z => h_63 ((ck_bef_over hbk (by omega)).mpr (by rw [hob] at z; exact z.2.2))))
              have hl : lv_has ls 8 [(6, .int (nI (k16 + 1))), (7, .ref (ad (200 + k16))), (5, .int 30), (4, .ref (ad 3)), (3, va_rf ((ck_best V a0 a1 (min (k16 + 1) nr)).map (fun b => ad (200 + b)))), (0, .ref (ad 0)), (1, .int a0), (2, .int a1)] := by rw [e9, hob]; exact hl
              exact ih16 ls (lv_sub hl [0, 2, 3, 4, 5, 6, 7] rfl) (trivial)
        · skip
          refine lv_if_eq (tgt := 72) hx hb dX4_rateInForce_53 (by decide) (fun _ => ?_) (fun c_53 => absurd (by decide) c_53)
          refine lv_iinc (v := nI (k16 + 1)) (lv' := [(6, .int (nI (k16 + 1))), (7, .ref (ad (200 + k16))), (5, .int 30), (4, .ref (ad 3)), (3, va_rf ((ck_best V a0 a1 (min k16 nr)).map (fun b => ad (200 + b)))), (0, .ref (ad 0)), (1, .int a0), (2, .int a1)]) hx hb dX4_rateInForce_72 hl (k := 1) rfl (nI_1 k16) (by decide) rfl (fun ls hl => ?_)
          refine lv_goto (tgt := 16) hx hb dX4_rateInForce_75 (by decide) ?_
          have e9 := ck_best_no (x := a0) (d := a1) hkn (fun z => h_50 z.2.1)
          have hl : lv_has ls 8 [(6, .int (nI (k16 + 1))), (7, .ref (ad (200 + k16))), (5, .int 30), (4, .ref (ad 3)), (3, va_rf ((ck_best V a0 a1 (min (k16 + 1) nr)).map (fun b => ad (200 + b)))), (0, .ref (ad 0)), (1, .int a0), (2, .int a1)] := by rw [e9]; exact hl
          exact ih16 ls (lv_sub hl [0, 2, 3, 4, 5, 6, 7] rfl) (trivial)
    · skip
      refine ck_aald hx hb hK hW (hC.n 3 (by decide)) hG3 4 rfl k16 (rfl) (hk16) (by decide) (r := none) (by rw [hg3 k16 hk16, if_neg hkn]) dX4_rateInForce_27 ?_
      refine lv_astoreN (lv' := [(7, .null), (6, .int (nI k16)), (5, .int 30), (4, .ref (ad 3)), (3, va_rf ((ck_best V a0 a1 (min k16 nr)).map (fun b => ad (200 + b)))), (0, .ref (ad 0)), (1, .int a0), (2, .int a1)]) hx hb dX4_rateInForce_28 hl (by decide) rfl (fun ls hl => ?_)
      refine lv_aloadN hx hb dX4_rateInForce_30 (lv_at hl 0 rfl) ?_
      refine lv_ifnullN (tgt := 72) hx hb dX4_rateInForce_32 (by decide) ?_
      refine lv_iinc (v := nI (k16 + 1)) (lv' := [(6, .int (nI (k16 + 1))), (7, .null), (5, .int 30), (4, .ref (ad 3)), (3, va_rf ((ck_best V a0 a1 (min k16 nr)).map (fun b => ad (200 + b)))), (0, .ref (ad 0)), (1, .int a0), (2, .int a1)]) hx hb dX4_rateInForce_72 hl (k := 1) rfl (nI_1 k16) (by decide) rfl (fun ls hl => ?_)
      refine lv_goto (tgt := 16) hx hb dX4_rateInForce_75 (by decide) ?_
      have e9 := ck_best_past (V := V) (x := a0) (d := a1) hkn
      have hl : lv_has ls 8 [(6, .int (nI (k16 + 1))), (7, .null), (5, .int 30), (4, .ref (ad 3)), (3, va_rf ((ck_best V a0 a1 (min (k16 + 1) nr)).map (fun b => ad (200 + b)))), (0, .ref (ad 0)), (1, .int a0), (2, .int a1)] := by rw [e9]; exact hl
      exact ih16 ls (lv_sub hl [0, 2, 3, 4, 5, 6, 7] rfl) (trivial)
def ck_now (V : Nat → Nat → Int32) (nr k : Nat) : Int32 := match ck_best V (V 0 k) (V 1 k / 1000) nr with
  | none => -1
  | some b => ck_chg (V 4 k) (V 9 b) (V 10 b) (V 11 b) (V 12 b)
set_option maxHeartbeats 4000000 in
set_option maxRecDepth 100000 in
theorem ct_X4_chargeNow (l : Launch) (G : ck_G) (H : Heap) (ad : Nat → Nat) (N : Nat → Prop) (F : Nat → va_E) (hW : ck_W G ad N F H) (V : Nat → Nat → Int32) (L : Nat → Nat → Int64) (nc nr : Nat) (hC : ck_C G ad V L nc nr N F) (k : Nat) (hk : k < nc) : Met l yX4_chargeNow wsX4_chargeNow ({ frames := 2, cells := 0, slots := 0, locals := 50 }) (ck_P G H [.ref (ad 0), .ref (ad (100 + k))]) (vp_Si (fun r => r = ck_now V nr k)) 0 0 (fun _ => False) := by
  refine Met.ofW (cc := cX4_chargeNow) (maxL := 3) (ret := (some .int)) (by decide) rfl ?_
  intro p e s m args below meth c s₁ B hml hv
  obtain ⟨rfl, hH, hKK⟩ := hv
  subst hH
  have hx := B.exec
  have hb := B.bytes
  have hr := B.returns
  have hts := atoms_spec (ws := wsX4_chargeNow) B.pre
  have hown : s.vm.findClass RX4 = some m.cls := findClass_of_methodNamed B.named
  have hlocks := B.notSynchronized
  have hKK0 := hKK
  have hK := hKK.1.1
  have hinX0 : ∀ w ∈ u_ws RX0 TX0 8, w ∈ wsX4_chargeNow := by decide +kernel
  have hl := lv_entry ([.ref (ad 0), .ref (ad (100 + k))]) (n := 3) (Nat.le_of_ble_eq_true rfl)
  rw [lg_entry_eq]
  generalize (lg_sl ([.ref (ad 0), .ref (ad (100 + k))]) ++ List.replicate (3 - (lg_sl ([.ref (ad 0), .ref (ad (100 + k))])).length) Slot.unset).toArray = ls at hl ⊢
  have hl : lv_has ls 3 [(0, .ref (ad 0)), (1, .ref (ad (100 + k)))] := hl
  refine lv_aload_n hx hb dX4_chargeNow_0 rfl (lv_at hl 0 rfl) ?_
  refine lv_aload_n hx hb dX4_chargeNow_1 rfl (lv_at hl 1 rfl) ?_
  refine ck_get (v := .int (V 0 k)) hx hb hts hinX0 hown hK hW (hC.ncall k hk) (hC.call k hk) rfl 1 (by decide) (hts _ (List.mem_of_getElem? (i := 1) rfl)) rfl rfl dX4_chargeNow_2 ?_
  refine lv_aload_n hx hb dX4_chargeNow_5 rfl (lv_at hl 1 rfl) ?_
  refine ck_cVi (As := []) (rest := [.int (V 0 k), .ref (ad 0)]) ⟨hx, hb, hml, hown, hts⟩ hKK (ct_X0_day l G s.heap ad N F hW (100 + k) (hC.ncall k hk) ((nI k)) ((V 0 k)) ((V 1 k)) ((V 2 k)) ((V 3 k)) ((V 4 k)) ((V 5 k)) ((V 6 k)) (hC.call k hk)) (cwV 0 hts gX4_chargeNow_X0_day rfl rfl rfl (by decide +kernel) ⟨Nat.le_of_ble_eq_true rfl, Nat.le_of_ble_eq_true rfl⟩) (ck_recv hK hW (hC.ncall k hk) (hC.call k hk) rfl) rfl hl rfl (Nat.le_of_ble_eq_true rfl) dX4_chargeNow_6 ⟨Nat.le_of_ble_eq_true rfl, Nat.le_of_ble_eq_true rfl⟩ (fun r_6 h_6 => ?_)
  subst h_6
  refine ck_cVq (As := [.int (V 0 k), .int (((V 1 k)) / 1000)]) (rest := []) ⟨hx, hb, hml, hown, hts⟩ hKK (ct_X4_rateInForce l G s.heap ad N F hW V L nc nr hC ((V 0 k)) ((((V 1 k)) / 1000))) (cwV 2 hts gX4_chargeNow_X4_rateInForce rfl rfl rfl (by decide +kernel) ⟨Nat.le_of_ble_eq_true rfl, Nat.le_of_ble_eq_true rfl⟩) (ck_recv hK hW (hC.n 0 (by decide)) hC.f0 rfl) rfl hl rfl (Nat.le_of_ble_eq_true rfl) dX4_chargeNow_9 ⟨Nat.le_of_ble_eq_true rfl, Nat.le_of_ble_eq_true rfl⟩ (fun r_9 h_9 => ?_)
  rcases h_9 with ⟨b9, hb9, e_9, rfl⟩ | ⟨e_9, rfl⟩
  · skip
    refine lv_astore_n (lv' := [(2, .ref (ad (200 + b9))), (0, .ref (ad 0)), (1, .ref (ad (100 + k)))]) hx hb dX4_chargeNow_12 rfl hl (by decide) rfl (fun ls hl => ?_)
    refine lv_aload_n hx hb dX4_chargeNow_13 rfl (lv_at hl 0 rfl) ?_
    refine lv_ifnonnull (tgt := 21) hx hb dX4_chargeNow_14 (by decide) ?_
    refine lv_aload_n hx hb dX4_chargeNow_21 rfl (lv_at hl 0 rfl) ?_
    refine lv_aload_n hx hb dX4_chargeNow_22 rfl (lv_at hl 2 rfl) ?_
    refine ck_get (v := .int (V 4 k)) hx hb hts hinX0 hown hK hW (hC.ncall k hk) (hC.call k hk) rfl 5 (by decide) (hts _ (List.mem_of_getElem? (i := 2) rfl)) rfl rfl dX4_chargeNow_23 ?_
    refine ck_cVi (As := [.int (V 4 k)]) (rest := []) ⟨hx, hb, hml, hown, hts⟩ hKK (ct_X2_chargeFor l G s.heap ad N F hW (200 + b9) (hC.nrate b9 hb9) ((nI b9)) ((V 7 b9)) ((V 8 b9)) ((V 9 b9)) ((V 10 b9)) ((V 11 b9)) ((V 12 b9)) (hC.rate b9 hb9) ((V 4 k))) (cwV 1 hts gX4_chargeNow_X2_chargeFor rfl rfl rfl (by decide +kernel) ⟨Nat.le_of_ble_eq_true rfl, Nat.le_of_ble_eq_true rfl⟩) (ck_recv hK hW (hC.nrate b9 hb9) (hC.rate b9 hb9) rfl) rfl hl rfl (Nat.le_of_ble_eq_true rfl) dX4_chargeNow_26 ⟨Nat.le_of_ble_eq_true rfl, Nat.le_of_ble_eq_true rfl⟩ (fun r_26 h_26 => ?_)
    subst h_26
    exact W.iret (v := (ck_chg ((V 4 k)) ((V 9 b9)) ((V 10 b9)) ((V 11 b9)) ((V 12 b9)))) hx hb hr (fun t ht hW9 => ⟨_, rfl, (by simp only [ck_now, e_9]), ht⟩) (fun _ h => nomatch h) dX4_chargeNow_29
  · skip
    refine lv_astore_nN (lv' := [(2, .null), (0, .ref (ad 0)), (1, .ref (ad (100 + k)))]) hx hb dX4_chargeNow_12 rfl hl (by decide) rfl (fun ls hl => ?_)
    refine lv_aload_nN hx hb dX4_chargeNow_13 rfl (lv_at hl 0 rfl) ?_
    refine lv_ifnonnullN hx hb dX4_chargeNow_14 ?_
    refine lv_iconst (v := (-1)) hx hb dX4_chargeNow_17 (by decide) ?_
    refine lv_goto (tgt := 29) hx hb dX4_chargeNow_18 (by decide) ?_
    exact W.iret (v := (-1)) hx hb hr (fun t ht hW9 => ⟨_, rfl, (by simp only [ck_now, e_9]), ht⟩) (fun _ h => nomatch h) dX4_chargeNow_29
def ck_pr (V : Nat → Nat → Int32) (x : Int32) (i : Nat) : Int32 := (ck_pf (V (20 + i)) (V (24 + i)) x 10).2
set_option maxHeartbeats 4000000 in
set_option maxRecDepth 100000 in
theorem ct_X4_priceOf (l : Launch) (G : ck_G) (H : Heap) (ad : Nat → Nat) (N : Nat → Prop) (F : Nat → va_E) (hW : ck_W G ad N F H) (V : Nat → Nat → Int32) (L : Nat → Nat → Int64) (nc nr : Nat) (hC : ck_C G ad V L nc nr N F) (i : Nat) (hi : i < 4) (a1 : Int32) : Met l yX4_priceOf wsX4_priceOf ({ frames := 2, cells := 0, slots := 0, locals := 47 }) (ck_P G H [.ref (ad 0), .int (nI i), .int a1]) (vp_Si (fun r => r = ck_pr V a1 i)) 0 0 (fun _ => False) := by
  refine Met.ofW (cc := cX4_priceOf) (maxL := 4) (ret := (some .int)) (by decide) rfl ?_
  intro p e s m args below meth c s₁ B hml hv
  obtain ⟨rfl, hH, hKK⟩ := hv
  subst hH
  have hx := B.exec
  have hb := B.bytes
  have hr := B.returns
  have hts := atoms_spec (ws := wsX4_priceOf) B.pre
  have hown : s.vm.findClass RX4 = some m.cls := findClass_of_methodNamed B.named
  have hlocks := B.notSynchronized
  have hKK0 := hKK
  have hK := hKK.1.1
  have hl := lv_entry ([.ref (ad 0), .int (nI i), .int a1]) (n := 4) (Nat.le_of_ble_eq_true rfl)
  rw [lg_entry_eq]
  generalize (lg_sl ([.ref (ad 0), .int (nI i), .int a1]) ++ List.replicate (4 - (lg_sl ([.ref (ad 0), .int (nI i), .int a1])).length) Slot.unset).toArray = ls at hl ⊢
  have hl : lv_has ls 4 [(0, .ref (ad 0)), (1, .int (nI i)), (2, .int a1)] := hl
  refine lv_aload_n hx hb dX4_priceOf_0 rfl (lv_at hl 0 rfl) ?_
  refine lv_iload_n hx hb dX4_priceOf_1 rfl (lv_at hl 1 rfl) ?_
  refine ck_cVq (As := [.int (nI i)]) (rest := []) ⟨hx, hb, hml, hown, hts⟩ hKK (ct_X4_carrierAt l G s.heap ad N F hW V L nc nr hC ((nI i))) (cwV 1 hts gX4_priceOf_X4_carrierAt rfl rfl rfl (by decide +kernel) ⟨Nat.le_of_ble_eq_true rfl, Nat.le_of_ble_eq_true rfl⟩) (ck_recv hK hW (hC.n 0 (by decide)) hC.f0 rfl) rfl hl rfl (Nat.le_of_ble_eq_true rfl) dX4_priceOf_2 ⟨Nat.le_of_ble_eq_true rfl, Nat.le_of_ble_eq_true rfl⟩ (fun r_2 h_2 => ?_)
  rcases h_2 with ⟨j2, hj2, e2, rfl⟩ | ⟨hno2, rfl⟩
  · skip
    obtain rfl : i = j2 := (nI_eq (by omega) (by omega)).mp e2
    refine lv_astore_n (lv' := [(3, .ref (ad (11 + i))), (0, .ref (ad 0)), (1, .int (nI i)), (2, .int a1)]) hx hb dX4_priceOf_5 rfl hl (by decide) rfl (fun ls hl => ?_)
    refine lv_aload_n hx hb dX4_priceOf_6 rfl (lv_at hl 0 rfl) ?_
    refine lv_ifnonnull (tgt := 14) hx hb dX4_priceOf_7 (by decide) ?_
    refine lv_aload_n hx hb dX4_priceOf_14 rfl (lv_at hl 0 rfl) ?_
    refine lv_iload_n hx hb dX4_priceOf_15 rfl (lv_at hl 3 rfl) ?_
    refine ck_cVi (As := [.int a1]) (rest := []) ⟨hx, hb, hml, hown, hts⟩ hKK (ct_X1_priceFor l G s.heap ad N F hW (11 + i) (hC.n (11 + i) (by omega)) (15 + i) (19 + i) (hC.car i hi) (hC.n (15 + i) (by omega)) ((V (20 + i))) (hC.pre i hi) (hC.n (19 + i) (by omega)) ((V (24 + i))) (hC.pri i hi) a1) (cwV 1 hts gX4_priceOf_X1_priceFor rfl rfl rfl (by decide +kernel) ⟨Nat.le_of_ble_eq_true rfl, Nat.le_of_ble_eq_true rfl⟩) (ck_recv hK hW (hC.n (11 + i) (by omega)) (hC.car i hi) rfl) rfl hl rfl (Nat.le_of_ble_eq_true rfl) dX4_priceOf_16 ⟨Nat.le_of_ble_eq_true rfl, Nat.le_of_ble_eq_true rfl⟩ (fun r_16 h_16 => ?_)
    subst h_16
    exact W.iret (v := ((ck_pf ((V (20 + i))) ((V (24 + i))) a1 10).2)) hx hb hr (fun t ht hW9 => ⟨_, rfl, rfl, ht⟩) (fun _ h => nomatch h) dX4_priceOf_19
  · skip
    exact absurd (ck_ok_nI hi (by decide)) hno2
def ck_cb (P : Nat → Int32) (i : Nat) (q : Int32) : Nat → Nat
  | 0 => 0
  | k + 1 => if ¬ P k = -1 ∧ (P k < q ∨ (P k = q ∧ k < i)) then ck_cb P i q k + 1 else ck_cb P i q k
theorem ck_cb_yes {P : Nat → Int32} {i k : Nat} {q : Int32} (h : ¬ P k = -1 ∧ (P k < q ∨ (P k = q ∧ k < i))) : ck_cb P i q (k + 1) = ck_cb P i q k + 1 := by simp only [ck_cb]; rw [if_pos h]
theorem ck_cb_no {P : Nat → Int32} {i k : Nat} {q : Int32} (h : ¬ (¬ P k = -1 ∧ (P k < q ∨ (P k = q ∧ k < i)))) : ck_cb P i q (k + 1) = ck_cb P i q k := by simp only [ck_cb]; rw [if_neg h]
set_option maxHeartbeats 4000000 in
set_option maxRecDepth 100000 in
theorem ct_X4_carriersBefore (l : Launch) (G : ck_G) (H : Heap) (ad : Nat → Nat) (N : Nat → Prop) (F : Nat → va_E) (hW : ck_W G ad N F H) (V : Nat → Nat → Int32) (L : Nat → Nat → Int64) (nc nr : Nat) (hC : ck_C G ad V L nc nr N F) (i : Nat) (hi : i < 4) (a1 a2 : Int32) : Met l yX4_carriersBefore wsX4_carriersBefore ({ frames := 3, cells := 0, slots := 0, locals := 70 }) (ck_P G H [.ref (ad 0), .int (nI i), .int a1, .int a2]) (vp_Si (fun r => r = nI (ck_cb (ck_pr V a2) i a1 4))) 0 0 (fun _ => False) := by
  refine Met.ofW (cc := cX4_carriersBefore) (maxL := 7) (ret := (some .int)) (by decide) rfl ?_
  intro p e s m args below meth c s₁ B hml hv
  obtain ⟨rfl, hH, hKK⟩ := hv
  subst hH
  have hx := B.exec
  have hb := B.bytes
  have hr := B.returns
  have hts := atoms_spec (ws := wsX4_carriersBefore) B.pre
  have hown : s.vm.findClass RX4 = some m.cls := findClass_of_methodNamed B.named
  have hlocks := B.notSynchronized
  have hKK0 := hKK
  have hK := hKK.1.1
  have hinX4 : ∀ w ∈ u_ws RX4 TX4 8, w ∈ wsX4_carriersBefore := by decide +kernel
  have hl := lv_entry ([.ref (ad 0), .int (nI i), .int a1, .int a2]) (n := 7) (Nat.le_of_ble_eq_true rfl)
  rw [lg_entry_eq]
  generalize (lg_sl ([.ref (ad 0), .int (nI i), .int a1, .int a2]) ++ List.replicate (7 - (lg_sl ([.ref (ad 0), .int (nI i), .int a1, .int a2])).length) Slot.unset).toArray = ls at hl ⊢
  have hl : lv_has ls 7 [(0, .ref (ad 0)), (1, .int (nI i)), (2, .int a1), (3, .int a2)] := hl
  obtain ⟨g4, hG4, hg4⟩ := hC.f4
  refine lv_iconst (v := 0) hx hb dX4_carriersBefore_0 (by decide) ?_
  refine lv_istore (lv' := [(4, .int 0), (0, .ref (ad 0)), (1, .int (nI i)), (2, .int a1), (3, .int a2)]) hx hb dX4_carriersBefore_1 hl (by decide) rfl (fun ls hl => ?_)
  refine lv_iconst (v := 0) hx hb dX4_carriersBefore_3 (by decide) ?_
  refine lv_istore (lv' := [(5, .int 0), (4, .int 0), (0, .ref (ad 0)), (1, .int (nI i)), (2, .int a1), (3, .int a2)]) hx hb dX4_carriersBefore_4 hl (by decide) rfl (fun ls hl => ?_)
  refine ck_loop (P := fun ls => W p l e _ s m _ below meth c _ _ _ _ _ (F0 m _ ls _)) 4 (fun k => [(5, .int (nI k)), (4, .int (nI (ck_cb (ck_pr V a2) i a1 k))), (0, .ref (ad 0)), (1, .int (nI i)), (2, .int a1), (3, .int a2)]) (fun k => True) (lv_sub hl [0, 1, 2, 3, 4, 5] rfl) (trivial) ?_ ?_
  · intro ls hl hI6
    have hl : lv_has ls 7 [(5, .int (nI 4)), (4, .int (nI (ck_cb (ck_pr V a2) i a1 4))), (0, .ref (ad 0)), (1, .int (nI i)), (2, .int a1), (3, .int a2)] := hl
    refine lv_iload hx hb dX4_carriersBefore_6 (lv_at hl 0 rfl) ?_
    refine lv_aload_n hx hb dX4_carriersBefore_8 rfl (lv_at hl 2 rfl) ?_
    refine ck_get (v := .ref (ad 4)) hx hb hts hinX4 hown hK hW (hC.n 0 (by decide)) hC.f0 rfl 7 (by decide) (hts _ (List.mem_of_getElem? (i := 1) rfl)) rfl rfl dX4_carriersBefore_9 ?_
    refine ck_alen (v := 4) hx hb hK hW (hC.n 4 (by decide)) hG4 3 rfl rfl dX4_carriersBefore_12 ?_
    refine lv_icmp_ge (tgt := 58) hx hb dX4_carriersBefore_13 (by decide) (fun _ => ?_) (fun c_13 => absurd (Int32.le_refl _) c_13)
    refine lv_iload hx hb dX4_carriersBefore_58 (lv_at hl 1 rfl) ?_
    exact W.iret (v := (nI (ck_cb (ck_pr V a2) i a1 4))) hx hb hr (fun t ht hW9 => ⟨_, rfl, rfl, ht⟩) (fun _ h => nomatch h) dX4_carriersBefore_60
  · intro k6 hk6 hI6 ih6 ls hl
    have hl : lv_has ls 7 [(5, .int (nI k6)), (4, .int (nI (ck_cb (ck_pr V a2) i a1 k6))), (0, .ref (ad 0)), (1, .int (nI i)), (2, .int a1), (3, .int a2)] := hl
    refine lv_iload hx hb dX4_carriersBefore_6 (lv_at hl 0 rfl) ?_
    refine lv_aload_n hx hb dX4_carriersBefore_8 rfl (lv_at hl 2 rfl) ?_
    refine ck_get (v := .ref (ad 4)) hx hb hts hinX4 hown hK hW (hC.n 0 (by decide)) hC.f0 rfl 7 (by decide) (hts _ (List.mem_of_getElem? (i := 1) rfl)) rfl rfl dX4_carriersBefore_9 ?_
    refine ck_alen (v := 4) hx hb hK hW (hC.n 4 (by decide)) hG4 3 rfl rfl dX4_carriersBefore_12 ?_
    refine lv_icmp_ge (tgt := 58) hx hb dX4_carriersBefore_13 (by decide) (fun c_13 => absurd c_13 (nI_ge hk6 (by decide))) (fun _ => ?_)
    refine lv_aload_n hx hb dX4_carriersBefore_16 rfl (lv_at hl 2 rfl) ?_
    refine lv_iload hx hb dX4_carriersBefore_17 (lv_at hl 0 rfl) ?_
    refine lv_iload_n hx hb dX4_carriersBefore_19 rfl (lv_at hl 5 rfl) ?_
    refine ck_cVi (As := [.int (nI k6), .int a2]) (rest := []) ⟨hx, hb, hml, hown, hts⟩ hKK (ct_X4_priceOf l G s.heap ad N F hW V L nc nr hC k6 hk6 a2) (cwV 2 hts gX4_carriersBefore_X4_priceOf rfl rfl rfl (by decide +kernel) ⟨Nat.le_of_ble_eq_true rfl, Nat.le_of_ble_eq_true rfl⟩) (ck_recv hK hW (hC.n 0 (by decide)) hC.f0 rfl) rfl hl rfl (Nat.le_of_ble_eq_true rfl) dX4_carriersBefore_20 ⟨Nat.le_of_ble_eq_true rfl, Nat.le_of_ble_eq_true rfl⟩ (fun r_20 h_20 => ?_)
    subst h_20
    refine lv_istore (lv' := [(6, .int (ck_pr V a2 k6)), (5, .int (nI k6)), (4, .int (nI (ck_cb (ck_pr V a2) i a1 k6))), (0, .ref (ad 0)), (1, .int (nI i)), (2, .int a1), (3, .int a2)]) hx hb dX4_carriersBefore_23 hl (by decide) rfl (fun ls hl => ?_)
    refine lv_iload hx hb dX4_carriersBefore_25 (lv_at hl 0 rfl) ?_
    refine lv_iconst (v := (-1)) hx hb dX4_carriersBefore_27 (by decide) ?_
    refine lv_icmp_eq (tgt := 52) hx hb dX4_carriersBefore_28 (by decide) (fun c_28 => ?_) (fun c_28 => ?_)
    · skip
      refine lv_iinc (v := nI (k6 + 1)) (lv' := [(5, .int (nI (k6 + 1))), (6, .int (ck_pr V a2 k6)), (4, .int (nI (ck_cb (ck_pr V a2) i a1 k6))), (0, .ref (ad 0)), (1, .int (nI i)), (2, .int a1), (3, .int a2)]) hx hb dX4_carriersBefore_52 hl (k := 1) rfl (nI_1 k6) (by decide) rfl (fun ls hl => ?_)
      refine lv_goto (tgt := 6) hx hb dX4_carriersBefore_55 (by decide) ?_
      have e9 : ck_cb (ck_pr V a2) i a1 (k6 + 1) = _ := ck_cb_no (fun z => z.1 c_28)
      have hl : lv_has ls 7 [(5, .int (nI (k6 + 1))), (6, .int (ck_pr V a2 k6)), (4, .int (nI (ck_cb (ck_pr V a2) i a1 (k6 + 1)))), (0, .ref (ad 0)), (1, .int (nI i)), (2, .int a1), (3, .int a2)] := by rw [e9]; exact hl
      exact ih6 ls (lv_sub hl [0, 2, 3, 4, 5, 6] rfl) (trivial)
    · skip
      refine lv_iload hx hb dX4_carriersBefore_31 (lv_at hl 0 rfl) ?_
      refine lv_iload_n hx hb dX4_carriersBefore_33 rfl (lv_at hl 5 rfl) ?_
      refine lv_icmp_lt (tgt := 49) hx hb dX4_carriersBefore_34 (by decide) (fun c_34 => ?_) (fun c_34 => ?_)
      · skip
        refine lv_iinc (v := nI ((ck_cb (ck_pr V a2) i a1 k6) + 1)) (lv' := [(4, .int (nI ((ck_cb (ck_pr V a2) i a1 k6) + 1))), (6, .int (ck_pr V a2 k6)), (5, .int (nI k6)), (0, .ref (ad 0)), (1, .int (nI i)), (2, .int a1), (3, .int a2)]) hx hb dX4_carriersBefore_49 hl (k := 2) rfl (nI_1 (ck_cb (ck_pr V a2) i a1 k6)) (by decide) rfl (fun ls hl => ?_)
        refine lv_iinc (v := nI (k6 + 1)) (lv' := [(5, .int (nI (k6 + 1))), (4, .int (nI ((ck_cb (ck_pr V a2) i a1 k6) + 1))), (6, .int (ck_pr V a2 k6)), (0, .ref (ad 0)), (1, .int (nI i)), (2, .int a1), (3, .int a2)]) hx hb dX4_carriersBefore_52 hl (k := 2) rfl (nI_1 k6) (by decide) rfl (fun ls hl => ?_)
        refine lv_goto (tgt := 6) hx hb dX4_carriersBefore_55 (by decide) ?_
        have e9 : ck_cb (ck_pr V a2) i a1 (k6 + 1) = _ := ck_cb_yes ⟨c_28, Or.inl c_34⟩
        have hl : lv_has ls 7 [(5, .int (nI (k6 + 1))), (4, .int (nI (ck_cb (ck_pr V a2) i a1 (k6 + 1)))), (6, .int (ck_pr V a2 k6)), (0, .ref (ad 0)), (1, .int (nI i)), (2, .int a1), (3, .int a2)] := by rw [e9]; exact hl
        exact ih6 ls (lv_sub hl [0, 1, 3, 4, 5, 6] rfl) (trivial)
      · skip
        refine lv_iload hx hb dX4_carriersBefore_37 (lv_at hl 0 rfl) ?_
        refine lv_iload_n hx hb dX4_carriersBefore_39 rfl (lv_at hl 5 rfl) ?_
        refine lv_icmp_ne (tgt := 52) hx hb dX4_carriersBefore_40 (by decide) (fun c_40 => ?_) (fun c_40 => ?_)
        · skip
          refine lv_iinc (v := nI (k6 + 1)) (lv' := [(5, .int (nI (k6 + 1))), (6, .int (ck_pr V a2 k6)), (4, .int (nI (ck_cb (ck_pr V a2) i a1 k6))), (0, .ref (ad 0)), (1, .int (nI i)), (2, .int a1), (3, .int a2)]) hx hb dX4_carriersBefore_52 hl (k := 1) rfl (nI_1 k6) (by decide) rfl (fun ls hl => ?_)
          refine lv_goto (tgt := 6) hx hb dX4_carriersBefore_55 (by decide) ?_
          have e9 : ck_cb (ck_pr V a2) i a1 (k6 + 1) = _ := ck_cb_no (fun z => z.2.elim c_34 (fun z => c_40 z.1))
          have hl : lv_has ls 7 [(5, .int (nI (k6 + 1))), (6, .int (ck_pr V a2 k6)), (4, .int (nI (ck_cb (ck_pr V a2) i a1 (k6 + 1)))), (0, .ref (ad 0)), (1, .int (nI i)), (2, .int a1), (3, .int a2)] := by rw [e9]; exact hl
          exact ih6 ls (lv_sub hl [0, 2, 3, 4, 5, 6] rfl) (trivial)
        · skip
          refine lv_iload hx hb dX4_carriersBefore_43 (lv_at hl 1 rfl) ?_
          refine lv_iload_n hx hb dX4_carriersBefore_45 rfl (lv_at hl 4 rfl) ?_
          refine lv_icmp_ge (tgt := 52) hx hb dX4_carriersBefore_46 (by decide) (fun c_46 => ?_) (fun c_46 => ?_)
          · skip
            refine lv_iinc (v := nI (k6 + 1)) (lv' := [(5, .int (nI (k6 + 1))), (6, .int (ck_pr V a2 k6)), (4, .int (nI (ck_cb (ck_pr V a2) i a1 k6))), (0, .ref (ad 0)), (1, .int (nI i)), (2, .int a1), (3, .int a2)]) hx hb dX4_carriersBefore_52 hl (k := 1) rfl (nI_1 k6) (by decide) rfl (fun ls hl => ?_)
            refine lv_goto (tgt := 6) hx hb dX4_carriersBefore_55 (by decide) ?_
            have e9 : ck_cb (ck_pr V a2) i a1 (k6 + 1) = _ := ck_cb_no (fun z => z.2.elim c_34 (fun z => absurd ((nI_leI (by omega) (by omega)).mp c_46) (by omega)))
            have hl : lv_has ls 7 [(5, .int (nI (k6 + 1))), (6, .int (ck_pr V a2 k6)), (4, .int (nI (ck_cb (ck_pr V a2) i a1 (k6 + 1)))), (0, .ref (ad 0)), (1, .int (nI i)), (2, .int a1), (3, .int a2)] := by rw [e9]; exact hl
            exact ih6 ls (lv_sub hl [0, 2, 3, 4, 5, 6] rfl) (trivial)
          · skip
            refine lv_iinc (v := nI ((ck_cb (ck_pr V a2) i a1 k6) + 1)) (lv' := [(4, .int (nI ((ck_cb (ck_pr V a2) i a1 k6) + 1))), (6, .int (ck_pr V a2 k6)), (5, .int (nI k6)), (0, .ref (ad 0)), (1, .int (nI i)), (2, .int a1), (3, .int a2)]) hx hb dX4_carriersBefore_49 hl (k := 2) rfl (nI_1 (ck_cb (ck_pr V a2) i a1 k6)) (by decide) rfl (fun ls hl => ?_)
            refine lv_iinc (v := nI (k6 + 1)) (lv' := [(5, .int (nI (k6 + 1))), (4, .int (nI ((ck_cb (ck_pr V a2) i a1 k6) + 1))), (6, .int (ck_pr V a2 k6)), (0, .ref (ad 0)), (1, .int (nI i)), (2, .int a1), (3, .int a2)]) hx hb dX4_carriersBefore_52 hl (k := 2) rfl (nI_1 k6) (by decide) rfl (fun ls hl => ?_)
            refine lv_goto (tgt := 6) hx hb dX4_carriersBefore_55 (by decide) ?_
            have e9 : ck_cb (ck_pr V a2) i a1 (k6 + 1) = _ := ck_cb_yes ⟨c_28, Or.inr ⟨c_40, Nat.lt_of_not_le (fun z => c_46 ((nI_leI (by omega) (by omega)).mpr z))⟩⟩
            have hl : lv_has ls 7 [(5, .int (nI (k6 + 1))), (4, .int (nI (ck_cb (ck_pr V a2) i a1 (k6 + 1)))), (6, .int (ck_pr V a2 k6)), (0, .ref (ad 0)), (1, .int (nI i)), (2, .int a1), (3, .int a2)] := by rw [e9]; exact hl
            exact ih6 ls (lv_sub hl [0, 1, 3, 4, 5, 6] rfl) (trivial)
def ck_rk (P : Nat → Int32) (lim rank : Int32) : Nat → Nat → Int32
  | _, 0 => -1
  | k, n + 1 => if ¬ P k = -1 ∧ P k ≤ lim ∧ nI (ck_cb P k (P k) 4) = rank then nI k else ck_rk P lim rank (k + 1) n
theorem ck_rk_go {P : Nat → Int32} {lim rank z : Int32} {k : Nat} (hk : k < 4) (h : ¬ (¬ P k = -1 ∧ P k ≤ lim ∧ nI (ck_cb P k (P k) 4) = rank)) (hI : ck_rk P lim rank k (4 - k) = z) : ck_rk P lim rank (k + 1) (4 - (k + 1)) = z := by
  rw [show 4 - k = (4 - (k + 1)) + 1 by omega] at hI
  rw [← hI]; simp only [ck_rk]; rw [if_neg h]
theorem ck_rk_hit {P : Nat → Int32} {lim rank z : Int32} {k : Nat} (hk : k < 4) (h : ¬ P k = -1 ∧ P k ≤ lim ∧ nI (ck_cb P k (P k) 4) = rank) (hI : ck_rk P lim rank k (4 - k) = z) : nI k = z := by
  rw [show 4 - k = (4 - (k + 1)) + 1 by omega] at hI
  rw [← hI]; simp only [ck_rk]; rw [if_pos h]
set_option maxHeartbeats 4000000 in
set_option maxRecDepth 100000 in
theorem ct_X4_carrierOfRank (l : Launch) (G : ck_G) (H : Heap) (ad : Nat → Nat) (N : Nat → Prop) (F : Nat → va_E) (hW : ck_W G ad N F H) (V : Nat → Nat → Int32) (L : Nat → Nat → Int64) (nc nr : Nat) (hC : ck_C G ad V L nc nr N F) (a0 a1 a2 : Int32) : Met l yX4_carrierOfRank wsX4_carrierOfRank ({ frames := 4, cells := 0, slots := 0, locals := 96 }) (ck_P G H [.ref (ad 0), .int a0, .int a1, .int a2]) (vp_Si (fun r => r = ck_rk (ck_pr V a0) a1 a2 0 4)) 0 0 (fun _ => False) := by
  refine Met.ofW (cc := cX4_carrierOfRank) (maxL := 6) (ret := (some .int)) (by decide) rfl ?_
  intro p e s m args below meth c s₁ B hml hv
  obtain ⟨rfl, hH, hKK⟩ := hv
  subst hH
  have hx := B.exec
  have hb := B.bytes
  have hr := B.returns
  have hts := atoms_spec (ws := wsX4_carrierOfRank) B.pre
  have hown : s.vm.findClass RX4 = some m.cls := findClass_of_methodNamed B.named
  have hlocks := B.notSynchronized
  have hKK0 := hKK
  have hK := hKK.1.1
  have hinX4 : ∀ w ∈ u_ws RX4 TX4 8, w ∈ wsX4_carrierOfRank := by decide +kernel
  have hl := lv_entry ([.ref (ad 0), .int a0, .int a1, .int a2]) (n := 6) (Nat.le_of_ble_eq_true rfl)
  rw [lg_entry_eq]
  generalize (lg_sl ([.ref (ad 0), .int a0, .int a1, .int a2]) ++ List.replicate (6 - (lg_sl ([.ref (ad 0), .int a0, .int a1, .int a2])).length) Slot.unset).toArray = ls at hl ⊢
  have hl : lv_has ls 6 [(0, .ref (ad 0)), (1, .int a0), (2, .int a1), (3, .int a2)] := hl
  obtain ⟨g4, hG4, hg4⟩ := hC.f4
  refine lv_iconst (v := 0) hx hb dX4_carrierOfRank_0 (by decide) ?_
  refine lv_istore (lv' := [(4, .int 0), (0, .ref (ad 0)), (1, .int a0), (2, .int a1), (3, .int a2)]) hx hb dX4_carrierOfRank_1 hl (by decide) rfl (fun ls hl => ?_)
  refine ck_loop (P := fun ls => W p l e _ s m _ below meth c _ _ _ _ _ (F0 m _ ls _)) 4 (fun k => [(4, .int (nI k)), (0, .ref (ad 0)), (1, .int a0), (2, .int a1), (3, .int a2)]) (fun k => ck_rk (ck_pr V a0) a1 a2 k (4 - k) = ck_rk (ck_pr V a0) a1 a2 0 4) (lv_sub hl [0, 1, 2, 3, 4] rfl) (rfl) ?_ ?_
  · intro ls hl hI3
    have hl : lv_has ls 6 [(4, .int (nI 4)), (0, .ref (ad 0)), (1, .int a0), (2, .int a1), (3, .int a2)] := hl
    refine lv_iload hx hb dX4_carrierOfRank_3 (lv_at hl 0 rfl) ?_
    refine lv_aload_n hx hb dX4_carrierOfRank_5 rfl (lv_at hl 1 rfl) ?_
    refine ck_get (v := .ref (ad 4)) hx hb hts hinX4 hown hK hW (hC.n 0 (by decide)) hC.f0 rfl 7 (by decide) (hts _ (List.mem_of_getElem? (i := 1) rfl)) rfl rfl dX4_carrierOfRank_6 ?_
    refine ck_alen (v := 4) hx hb hK hW (hC.n 4 (by decide)) hG4 3 rfl rfl dX4_carrierOfRank_9 ?_
    refine lv_icmp_ge (tgt := 56) hx hb dX4_carrierOfRank_10 (by decide) (fun _ => ?_) (fun c_10 => absurd (Int32.le_refl _) c_10)
    refine lv_iconst (v := (-1)) hx hb dX4_carrierOfRank_56 (by decide) ?_
    exact W.iret (v := (-1)) hx hb hr (fun t ht hW9 => ⟨_, rfl, hI3, ht⟩) (fun _ h => nomatch h) dX4_carrierOfRank_57
  · intro k3 hk3 hI3 ih3 ls hl
    have hl : lv_has ls 6 [(4, .int (nI k3)), (0, .ref (ad 0)), (1, .int a0), (2, .int a1), (3, .int a2)] := hl
    refine lv_iload hx hb dX4_carrierOfRank_3 (lv_at hl 0 rfl) ?_
    refine lv_aload_n hx hb dX4_carrierOfRank_5 rfl (lv_at hl 1 rfl) ?_
    refine ck_get (v := .ref (ad 4)) hx hb hts hinX4 hown hK hW (hC.n 0 (by decide)) hC.f0 rfl 7 (by decide) (hts _ (List.mem_of_getElem? (i := 1) rfl)) rfl rfl dX4_carrierOfRank_6 ?_
    refine ck_alen (v := 4) hx hb hK hW (hC.n 4 (by decide)) hG4 3 rfl rfl dX4_carrierOfRank_9 ?_
    refine lv_icmp_ge (tgt := 56) hx hb dX4_carrierOfRank_10 (by decide) (fun c_10 => absurd c_10 (nI_ge hk3 (by decide))) (fun _ => ?_)
    refine lv_aload_n hx hb dX4_carrierOfRank_13 rfl (lv_at hl 1 rfl) ?_
    refine lv_iload hx hb dX4_carrierOfRank_14 (lv_at hl 0 rfl) ?_
    refine lv_iload_n hx hb dX4_carrierOfRank_16 rfl (lv_at hl 2 rfl) ?_
    refine ck_cVi (As := [.int (nI k3), .int a0]) (rest := []) ⟨hx, hb, hml, hown, hts⟩ hKK (ct_X4_priceOf l G s.heap ad N F hW V L nc nr hC k3 hk3 a0) (cwV 2 hts gX4_carrierOfRank_X4_priceOf rfl rfl rfl (by decide +kernel) ⟨Nat.le_of_ble_eq_true rfl, Nat.le_of_ble_eq_true rfl⟩) (ck_recv hK hW (hC.n 0 (by decide)) hC.f0 rfl) rfl hl rfl (Nat.le_of_ble_eq_true rfl) dX4_carrierOfRank_17 ⟨Nat.le_of_ble_eq_true rfl, Nat.le_of_ble_eq_true rfl⟩ (fun r_17 h_17 => ?_)
    subst h_17
    refine lv_istore (lv' := [(5, .int (ck_pr V a0 k3)), (4, .int (nI k3)), (0, .ref (ad 0)), (1, .int a0), (2, .int a1), (3, .int a2)]) hx hb dX4_carrierOfRank_20 hl (by decide) rfl (fun ls hl => ?_)
    refine lv_iload hx hb dX4_carrierOfRank_22 (lv_at hl 0 rfl) ?_
    refine lv_iconst (v := (-1)) hx hb dX4_carrierOfRank_24 (by decide) ?_
    refine lv_icmp_eq (tgt := 50) hx hb dX4_carrierOfRank_25 (by decide) (fun c_25 => ?_) (fun c_25 => ?_)
    · skip
      refine lv_iinc (v := nI (k3 + 1)) (lv' := [(4, .int (nI (k3 + 1))), (5, .int (ck_pr V a0 k3)), (0, .ref (ad 0)), (1, .int a0), (2, .int a1), (3, .int a2)]) hx hb dX4_carrierOfRank_50 hl (k := 1) rfl (nI_1 k3) (by decide) rfl (fun ls hl => ?_)
      refine lv_goto (tgt := 3) hx hb dX4_carrierOfRank_53 (by decide) ?_
      exact ih3 ls (lv_sub hl [0, 2, 3, 4, 5] rfl) (ck_rk_go hk3 (fun z => z.1 c_25) hI3)
    · skip
      refine lv_iload hx hb dX4_carrierOfRank_28 (lv_at hl 0 rfl) ?_
      refine lv_iload_n hx hb dX4_carrierOfRank_30 rfl (lv_at hl 4 rfl) ?_
      refine lv_icmp_gt (tgt := 50) hx hb dX4_carrierOfRank_31 (by decide) (fun c_31 => ?_) (fun c_31 => ?_)
      · skip
        refine lv_iinc (v := nI (k3 + 1)) (lv' := [(4, .int (nI (k3 + 1))), (5, .int (ck_pr V a0 k3)), (0, .ref (ad 0)), (1, .int a0), (2, .int a1), (3, .int a2)]) hx hb dX4_carrierOfRank_50 hl (k := 1) rfl (nI_1 k3) (by decide) rfl (fun ls hl => ?_)
        refine lv_goto (tgt := 3) hx hb dX4_carrierOfRank_53 (by decide) ?_
        exact ih3 ls (lv_sub hl [0, 2, 3, 4, 5] rfl) (ck_rk_go hk3 (fun z => absurd z.2.1 (Int32.not_le.mpr c_31)) hI3)
      · skip
        refine lv_aload_n hx hb dX4_carrierOfRank_34 rfl (lv_at hl 2 rfl) ?_
        refine lv_iload hx hb dX4_carrierOfRank_35 (lv_at hl 1 rfl) ?_
        refine lv_iload hx hb dX4_carrierOfRank_37 (lv_at hl 0 rfl) ?_
        refine lv_iload_n hx hb dX4_carrierOfRank_39 rfl (lv_at hl 3 rfl) ?_
        refine ck_cVi (As := [.int (nI k3), .int (ck_pr V a0 k3), .int a0]) (rest := []) ⟨hx, hb, hml, hown, hts⟩ hKK (ct_X4_carriersBefore l G s.heap ad N F hW V L nc nr hC k3 hk3 ((ck_pr V a0 k3)) a0) (cwV 3 hts gX4_carrierOfRank_X4_carriersBefore rfl rfl rfl (by decide +kernel) ⟨Nat.le_of_ble_eq_true rfl, Nat.le_of_ble_eq_true rfl⟩) (ck_recv hK hW (hC.n 0 (by decide)) hC.f0 rfl) rfl hl rfl (Nat.le_of_ble_eq_true rfl) dX4_carrierOfRank_40 ⟨Nat.le_of_ble_eq_true rfl, Nat.le_of_ble_eq_true rfl⟩ (fun r_40 h_40 => ?_)
        subst h_40
        refine lv_iload_n hx hb dX4_carrierOfRank_43 rfl (lv_at hl 5 rfl) ?_
        refine lv_icmp_ne (tgt := 50) hx hb dX4_carrierOfRank_44 (by decide) (fun c_44 => ?_) (fun c_44 => ?_)
        · skip
          refine lv_iinc (v := nI (k3 + 1)) (lv' := [(4, .int (nI (k3 + 1))), (5, .int (ck_pr V a0 k3)), (0, .ref (ad 0)), (1, .int a0), (2, .int a1), (3, .int a2)]) hx hb dX4_carrierOfRank_50 hl (k := 1) rfl (nI_1 k3) (by decide) rfl (fun ls hl => ?_)
          refine lv_goto (tgt := 3) hx hb dX4_carrierOfRank_53 (by decide) ?_
          exact ih3 ls (lv_sub hl [0, 2, 3, 4, 5] rfl) (ck_rk_go hk3 (fun z => c_44 z.2.2) hI3)
        · skip
          refine lv_iload hx hb dX4_carrierOfRank_47 (lv_at hl 1 rfl) ?_
          exact W.iret (v := (nI k3)) hx hb hr (fun t ht hW9 => ⟨_, rfl, ck_rk_hit hk3 ⟨c_25, Int32.not_lt.mp c_31, c_44⟩ hI3, ht⟩) (fun _ h => nomatch h) dX4_carrierOfRank_49
def ck_df (V : Nat → Nat → Int32) (q : Int32) : Nat → Int32
  | 0 => 0
  | k + 1 => if ck_fit q (V 0 k) = true then ck_df V q k + (V 6 k - ck_bk (V 5 k)) else ck_df V q k
theorem ck_df_yes {V : Nat → Nat → Int32} {q : Int32} {k nc : Nat} (hk : k < nc) (h : ck_fit q (V 0 k) = true) : ck_df V q (min (k + 1) nc) = ck_df V q (min k nc) + (V 6 k - ck_bk (V 5 k)) := by
  rw [show min (k + 1) nc = k + 1 by omega, show min k nc = k by omega]; simp only [ck_df]; rw [if_pos h]
theorem ck_df_no {V : Nat → Nat → Int32} {q : Int32} {k nc : Nat} (hk : k < nc) (h : ¬ ck_fit q (V 0 k) = true) : ck_df V q (min (k + 1) nc) = ck_df V q (min k nc) := by
  rw [show min (k + 1) nc = k + 1 by omega, show min k nc = k by omega]; simp only [ck_df]; rw [if_neg h]
theorem ck_df_past {V : Nat → Nat → Int32} {q : Int32} {k nc : Nat} (hk : ¬ k < nc) : ck_df V q (min (k + 1) nc) = ck_df V q (min k nc) := by rw [show min (k + 1) nc = min k nc by omega]
set_option maxHeartbeats 4000000 in
set_option maxRecDepth 100000 in
theorem ct_X4_differenceUnder (l : Launch) (G : ck_G) (H : Heap) (ad : Nat → Nat) (N : Nat → Prop) (F : Nat → va_E) (hW : ck_W G ad N F H) (V : Nat → Nat → Int32) (L : Nat → Nat → Int64) (nc nr : Nat) (hC : ck_C G ad V L nc nr N F) (a0 : Int32) : Met l yX4_differenceUnder wsX4_differenceUnder ({ frames := 3, cells := 0, slots := 0, locals := 60 }) (ck_P G H [.ref (ad 0), .int a0]) (vp_Si (fun r => r = ck_df V a0 nc)) 0 0 (fun _ => False) := by
  refine Met.ofW (cc := cX4_differenceUnder) (maxL := 7) (ret := (some .int)) (by decide) rfl ?_
  intro p e s m args below meth c s₁ B hml hv
  obtain ⟨rfl, hH, hKK⟩ := hv
  subst hH
  have hx := B.exec
  have hb := B.bytes
  have hr := B.returns
  have hts := atoms_spec (ws := wsX4_differenceUnder) B.pre
  have hown : s.vm.findClass RX4 = some m.cls := findClass_of_methodNamed B.named
  have hlocks := B.notSynchronized
  have hKK0 := hKK
  have hK := hKK.1.1
  have hinX4 : ∀ w ∈ u_ws RX4 TX4 8, w ∈ wsX4_differenceUnder := by decide +kernel
  have hinX0 : ∀ w ∈ u_ws RX0 TX0 8, w ∈ wsX4_differenceUnder := by decide +kernel
  have hl := lv_entry ([.ref (ad 0), .int a0]) (n := 7) (Nat.le_of_ble_eq_true rfl)
  rw [lg_entry_eq]
  generalize (lg_sl ([.ref (ad 0), .int a0]) ++ List.replicate (7 - (lg_sl ([.ref (ad 0), .int a0])).length) Slot.unset).toArray = ls at hl ⊢
  have hl : lv_has ls 7 [(0, .ref (ad 0)), (1, .int a0)] := hl
  obtain ⟨g2, hG2, hg2⟩ := hC.f2
  refine lv_iconst (v := 0) hx hb dX4_differenceUnder_0 (by decide) ?_
  refine lv_istore_n (lv' := [(2, .int 0), (0, .ref (ad 0)), (1, .int a0)]) hx hb dX4_differenceUnder_1 rfl hl (by decide) rfl (fun ls hl => ?_)
  refine lv_aload_n hx hb dX4_differenceUnder_2 rfl (lv_at hl 1 rfl) ?_
  refine ck_get (v := .ref (ad 2)) hx hb hts hinX4 hown hK hW (hC.n 0 (by decide)) hC.f0 rfl 1 (by decide) (hts _ (List.mem_of_getElem? (i := 1) rfl)) rfl rfl dX4_differenceUnder_3 ?_
  refine lv_astore_n (lv' := [(3, .ref (ad 2)), (2, .int 0), (0, .ref (ad 0)), (1, .int a0)]) hx hb dX4_differenceUnder_6 rfl hl (by decide) rfl (fun ls hl => ?_)
  refine lv_aload_n hx hb dX4_differenceUnder_7 rfl (lv_at hl 0 rfl) ?_
  refine ck_alen (v := 60) hx hb hK hW (hC.n 2 (by decide)) hG2 2 rfl rfl dX4_differenceUnder_8 ?_
  refine lv_istore (lv' := [(4, .int 60), (3, .ref (ad 2)), (2, .int 0), (0, .ref (ad 0)), (1, .int a0)]) hx hb dX4_differenceUnder_9 hl (by decide) rfl (fun ls hl => ?_)
  refine lv_iconst (v := 0) hx hb dX4_differenceUnder_11 (by decide) ?_
  refine lv_istore (lv' := [(5, .int 0), (4, .int 60), (3, .ref (ad 2)), (2, .int 0), (0, .ref (ad 0)), (1, .int a0)]) hx hb dX4_differenceUnder_12 hl (by decide) rfl (fun ls hl => ?_)
  have hl : lv_has ls 7 [(5, .int 0), (4, .int 60), (3, .ref (ad 2)), (2, .int (ck_df V a0 (min 0 nc))), (0, .ref (ad 0)), (1, .int a0)] := by rw [Nat.zero_min]; exact hl
  refine ck_loop (P := fun ls => W p l e _ s m _ below meth c _ _ _ _ _ (F0 m _ ls _)) 60 (fun k => [(5, .int (nI k)), (4, .int 60), (3, .ref (ad 2)), (2, .int (ck_df V a0 (min k nc))), (0, .ref (ad 0)), (1, .int a0)]) (fun k => True) (lv_sub hl [0, 1, 2, 3, 4, 5] rfl) (trivial) ?_ ?_
  · intro ls hl hI14
    have hl : lv_has ls 7 [(5, .int (nI 60)), (4, .int 60), (3, .ref (ad 2)), (2, .int (ck_df V a0 (min 60 nc))), (0, .ref (ad 0)), (1, .int a0)] := hl
    refine lv_iload hx hb dX4_differenceUnder_14 (lv_at hl 0 rfl) ?_
    refine lv_iload hx hb dX4_differenceUnder_16 (lv_at hl 1 rfl) ?_
    refine lv_icmp_ge (tgt := 58) hx hb dX4_differenceUnder_18 (by decide) (fun _ => ?_) (fun c_18 => absurd (Int32.le_refl _) c_18)
    refine lv_iload_n hx hb dX4_differenceUnder_58 rfl (lv_at hl 3 rfl) ?_
    exact W.iret (v := (ck_df V a0 (min 60 nc))) hx hb hr (fun t ht hW9 => ⟨_, rfl, (by rw [show min 60 nc = nc by have := hC.nc; omega]), ht⟩) (fun _ h => nomatch h) dX4_differenceUnder_59
  · intro k14 hk14 hI14 ih14 ls hl
    have hl : lv_has ls 7 [(5, .int (nI k14)), (4, .int 60), (3, .ref (ad 2)), (2, .int (ck_df V a0 (min k14 nc))), (0, .ref (ad 0)), (1, .int a0)] := hl
    refine lv_iload hx hb dX4_differenceUnder_14 (lv_at hl 0 rfl) ?_
    refine lv_iload hx hb dX4_differenceUnder_16 (lv_at hl 1 rfl) ?_
    refine lv_icmp_ge (tgt := 58) hx hb dX4_differenceUnder_18 (by decide) (fun c_18 => absurd c_18 (nI_ge hk14 (by decide))) (fun _ => ?_)
    refine lv_aload_n hx hb dX4_differenceUnder_21 rfl (lv_at hl 2 rfl) ?_
    refine lv_iload hx hb dX4_differenceUnder_22 (lv_at hl 0 rfl) ?_
    by_cases hkn : k14 < nc
    · skip
      refine ck_aald hx hb hK hW (hC.n 2 (by decide)) hG2 2 rfl k14 (rfl) (hk14) (by decide) (r := some (ad (100 + k14))) (by rw [hg2 k14 hk14, if_pos hkn]) dX4_differenceUnder_24 ?_
      refine lv_astore (lv' := [(6, .ref (ad (100 + k14))), (5, .int (nI k14)), (4, .int 60), (3, .ref (ad 2)), (2, .int (ck_df V a0 (min k14 nc))), (0, .ref (ad 0)), (1, .int a0)]) hx hb dX4_differenceUnder_25 hl (by decide) rfl (fun ls hl => ?_)
      refine lv_aload hx hb dX4_differenceUnder_27 (lv_at hl 0 rfl) ?_
      refine lv_ifnull hx hb dX4_differenceUnder_29 ?_
      refine lv_iload_n hx hb dX4_differenceUnder_32 rfl (lv_at hl 6 rfl) ?_
      refine lv_aload hx hb dX4_differenceUnder_33 (lv_at hl 0 rfl) ?_
      refine ck_get (v := .int (V 0 k14)) hx hb hts hinX0 hown hK hW (hC.ncall k14 hkn) (hC.call k14 hkn) rfl 1 (by decide) (hts _ (List.mem_of_getElem? (i := 2) rfl)) rfl rfl dX4_differenceUnder_35 ?_
      refine ck_cSi (As := [.int a0, .int (V 0 k14)]) (rest := []) ⟨hx, hb, hml, hown, hts⟩ hKK (ct_X4_fits l G s.heap a0 ((V 0 k14))) (va_cwS 2 hts gX4_differenceUnder_X4_fits rfl rfl rfl (by decide +kernel) ⟨Nat.le_of_ble_eq_true rfl, Nat.le_of_ble_eq_true rfl⟩) rfl hl rfl (Nat.le_of_ble_eq_true rfl) dX4_differenceUnder_38 ⟨Nat.le_of_ble_eq_true rfl, Nat.le_of_ble_eq_true rfl⟩ (fun r_38 h_38 => ?_)
      rcases h_38 with ⟨h_38, rfl⟩ | ⟨h_38, rfl⟩
      · skip
        refine lv_if_eq (tgt := 52) hx hb dX4_differenceUnder_41 (by decide) (fun c_41 => absurd c_41 (by decide)) (fun _ => ?_)
        refine lv_iload_n hx hb dX4_differenceUnder_44 rfl (lv_at hl 4 rfl) ?_
        refine lv_aload hx hb dX4_differenceUnder_45 (lv_at hl 0 rfl) ?_
        refine ck_cVi (As := []) (rest := [.int (ck_df V a0 (min k14 nc))]) ⟨hx, hb, hml, hown, hts⟩ hKK (ct_X0_disputed l G s.heap ad N F hW (100 + k14) (hC.ncall k14 hkn) ((nI k14)) ((V 0 k14)) ((V 1 k14)) ((V 2 k14)) ((V 3 k14)) ((V 4 k14)) ((V 5 k14)) ((V 6 k14)) (hC.call k14 hkn)) (cwV 0 hts gX4_differenceUnder_X0_disputed rfl rfl rfl (by decide +kernel) ⟨Nat.le_of_ble_eq_true rfl, Nat.le_of_ble_eq_true rfl⟩) (ck_recv hK hW (hC.ncall k14 hkn) (hC.call k14 hkn) rfl) rfl hl rfl (Nat.le_of_ble_eq_true rfl) dX4_differenceUnder_47 ⟨Nat.le_of_ble_eq_true rfl, Nat.le_of_ble_eq_true rfl⟩ (fun r_47 h_47 => ?_)
        subst h_47
        refine lv_iadd hx hb dX4_differenceUnder_50 ?_
        refine lv_istore_n (lv' := [(2, .int (((ck_df V a0 (min k14 nc))) + ((((V 6 k14)) - ck_bk ((V 5 k14)))))), (6, .ref (ad (100 + k14))), (5, .int (nI k14)), (4, .int 60), (3, .ref (ad 2)), (0, .ref (ad 0)), (1, .int a0)]) hx hb dX4_differenceUnder_51 rfl hl (by decide) rfl (fun ls hl => ?_)
        refine lv_iinc (v := nI (k14 + 1)) (lv' := [(5, .int (nI (k14 + 1))), (2, .int (((ck_df V a0 (min k14 nc))) + ((((V 6 k14)) - ck_bk ((V 5 k14)))))), (6, .ref (ad (100 + k14))), (4, .int 60), (3, .ref (ad 2)), (0, .ref (ad 0)), (1, .int a0)]) hx hb dX4_differenceUnder_52 hl (k := 2) rfl (nI_1 k14) (by decide) rfl (fun ls hl => ?_)
        refine lv_goto (tgt := 14) hx hb dX4_differenceUnder_55 (by decide) ?_
        have e9 := ck_df_yes hkn h_38
        have hl : lv_has ls 7 [(5, .int (nI (k14 + 1))), (2, .int (ck_df V a0 (min (k14 + 1) nc))), (6, .ref (ad (100 + k14))), (4, .int 60), (3, .ref (ad 2)), (0, .ref (ad 0)), (1, .int a0)] := by rw [e9]; exact hl
        exact ih14 ls (lv_sub hl [0, 3, 4, 1, 5, 6] rfl) (trivial)
      · skip
        refine lv_if_eq (tgt := 52) hx hb dX4_differenceUnder_41 (by decide) (fun _ => ?_) (fun c_41 => absurd (by decide) c_41)
        refine lv_iinc (v := nI (k14 + 1)) (lv' := [(5, .int (nI (k14 + 1))), (6, .ref (ad (100 + k14))), (4, .int 60), (3, .ref (ad 2)), (2, .int (ck_df V a0 (min k14 nc))), (0, .ref (ad 0)), (1, .int a0)]) hx hb dX4_differenceUnder_52 hl (k := 1) rfl (nI_1 k14) (by decide) rfl (fun ls hl => ?_)
        refine lv_goto (tgt := 14) hx hb dX4_differenceUnder_55 (by decide) ?_
        have e9 := ck_df_no hkn h_38
        have hl : lv_has ls 7 [(5, .int (nI (k14 + 1))), (6, .ref (ad (100 + k14))), (4, .int 60), (3, .ref (ad 2)), (2, .int (ck_df V a0 (min (k14 + 1) nc))), (0, .ref (ad 0)), (1, .int a0)] := by rw [e9]; exact hl
        exact ih14 ls (lv_sub hl [0, 2, 3, 4, 5, 6] rfl) (trivial)
    · skip
      refine ck_aald hx hb hK hW (hC.n 2 (by decide)) hG2 2 rfl k14 (rfl) (hk14) (by decide) (r := none) (by rw [hg2 k14 hk14, if_neg hkn]) dX4_differenceUnder_24 ?_
      refine lv_astoreN (lv' := [(6, .null), (5, .int (nI k14)), (4, .int 60), (3, .ref (ad 2)), (2, .int (ck_df V a0 (min k14 nc))), (0, .ref (ad 0)), (1, .int a0)]) hx hb dX4_differenceUnder_25 hl (by decide) rfl (fun ls hl => ?_)
      refine lv_aloadN hx hb dX4_differenceUnder_27 (lv_at hl 0 rfl) ?_
      refine lv_ifnullN (tgt := 52) hx hb dX4_differenceUnder_29 (by decide) ?_
      refine lv_iinc (v := nI (k14 + 1)) (lv' := [(5, .int (nI (k14 + 1))), (6, .null), (4, .int 60), (3, .ref (ad 2)), (2, .int (ck_df V a0 (min k14 nc))), (0, .ref (ad 0)), (1, .int a0)]) hx hb dX4_differenceUnder_52 hl (k := 1) rfl (nI_1 k14) (by decide) rfl (fun ls hl => ?_)
      refine lv_goto (tgt := 14) hx hb dX4_differenceUnder_55 (by decide) ?_
      have e9 := ck_df_past (V := V) (q := a0) hkn
      have hl : lv_has ls 7 [(5, .int (nI (k14 + 1))), (6, .null), (4, .int 60), (3, .ref (ad 2)), (2, .int (ck_df V a0 (min (k14 + 1) nc))), (0, .ref (ad 0)), (1, .int a0)] := by rw [e9]; exact hl
      exact ih14 ls (lv_sub hl [0, 2, 3, 4, 5, 6] rfl) (trivial)
def ck_wd (V : Nat → Nat → Int32) (nc : Nat) (q : Int32) (d : Nat) : Nat → Int32 × Int32
  | 0 => (-1, 0)
  | k + 1 => if (ck_wd V nc q d k).1 < ck_abs (ck_df V (q * 10 + nI (d + k)) nc) then (ck_abs (ck_df V (q * 10 + nI (d + k)) nc), q * 10 + nI (d + k)) else ck_wd V nc q d k
theorem ck_wd_yes {V : Nat → Nat → Int32} {nc d k : Nat} {q : Int32} (h : (ck_wd V nc q d k).1 < ck_abs (ck_df V (q * 10 + nI (d + k)) nc)) : ck_wd V nc q d (k + 1) = (ck_abs (ck_df V (q * 10 + nI (d + k)) nc), q * 10 + nI (d + k)) := by simp only [ck_wd]; rw [if_pos h]
theorem ck_wd_no {V : Nat → Nat → Int32} {nc d k : Nat} {q : Int32} (h : ¬ (ck_wd V nc q d k).1 < ck_abs (ck_df V (q * 10 + nI (d + k)) nc)) : ck_wd V nc q d (k + 1) = ck_wd V nc q d k := by simp only [ck_wd]; rw [if_neg h]
def ck_dig (V : Nat → Nat → Int32) (nc : Nat) (q : Int32) : Int32 := if q = 0 then (ck_wd V nc q 1 9).2 else (ck_wd V nc q 0 10).2
set_option maxHeartbeats 4000000 in
set_option maxRecDepth 100000 in
theorem ct_X4_withWorstDigit (l : Launch) (G : ck_G) (H : Heap) (ad : Nat → Nat) (N : Nat → Prop) (F : Nat → va_E) (hW : ck_W G ad N F H) (V : Nat → Nat → Int32) (L : Nat → Nat → Int64) (nc nr : Nat) (hC : ck_C G ad V L nc nr N F) (a0 : Int32) : Met l yX4_withWorstDigit wsX4_withWorstDigit ({ frames := 4, cells := 0, slots := 0, locals := 86 }) (ck_P G H [.ref (ad 0), .int a0]) (vp_Si (fun r => r = ck_dig V nc a0)) 0 0 (fun _ => False) := by
  refine Met.ofW (cc := cX4_withWorstDigit) (maxL := 7) (ret := (some .int)) (by decide) rfl ?_
  intro p e s m args below meth c s₁ B hml hv
  obtain ⟨rfl, hH, hKK⟩ := hv
  subst hH
  have hx := B.exec
  have hb := B.bytes
  have hr := B.returns
  have hts := atoms_spec (ws := wsX4_withWorstDigit) B.pre
  have hown : s.vm.findClass RX4 = some m.cls := findClass_of_methodNamed B.named
  have hlocks := B.notSynchronized
  have hKK0 := hKK
  have hK := hKK.1.1
  have hl := lv_entry ([.ref (ad 0), .int a0]) (n := 7) (Nat.le_of_ble_eq_true rfl)
  rw [lg_entry_eq]
  generalize (lg_sl ([.ref (ad 0), .int a0]) ++ List.replicate (7 - (lg_sl ([.ref (ad 0), .int a0])).length) Slot.unset).toArray = ls at hl ⊢
  have hl : lv_has ls 7 [(0, .ref (ad 0)), (1, .int a0)] := hl
  refine lv_iconst (v := 0) hx hb dX4_withWorstDigit_0 (by decide) ?_
  refine lv_istore_n (lv' := [(2, .int 0), (0, .ref (ad 0)), (1, .int a0)]) hx hb dX4_withWorstDigit_1 rfl hl (by decide) rfl (fun ls hl => ?_)
  refine lv_iconst (v := (-1)) hx hb dX4_withWorstDigit_2 (by decide) ?_
  refine lv_istore_n (lv' := [(3, .int (-1)), (2, .int 0), (0, .ref (ad 0)), (1, .int a0)]) hx hb dX4_withWorstDigit_3 rfl hl (by decide) rfl (fun ls hl => ?_)
  refine lv_iload_n hx hb dX4_withWorstDigit_4 rfl (lv_at hl 3 rfl) ?_
  refine lv_if_ne (tgt := 12) hx hb dX4_withWorstDigit_5 (by decide) (fun c_5 => ?_) (fun c_5 => ?_)
  · skip
    refine lv_iconst (v := 0) hx hb dX4_withWorstDigit_12 (by decide) ?_
    refine lv_istore (lv' := [(4, .int 0), (3, .int (-1)), (2, .int 0), (0, .ref (ad 0)), (1, .int a0)]) hx hb dX4_withWorstDigit_13 hl (by decide) rfl (fun ls hl => ?_)
    refine ck_loop (P := fun ls => W p l e _ s m _ below meth c _ _ _ _ _ (F0 m _ ls _)) 10 (fun k => [(4, .int (nI (0 + k))), (3, .int (ck_wd V nc a0 0 k).1), (2, .int (ck_wd V nc a0 0 k).2), (0, .ref (ad 0)), (1, .int a0)]) (fun k => True) (lv_sub hl [0, 1, 2, 3, 4] rfl) (trivial) ?_ ?_
    · intro ls hl hI15
      have hl : lv_has ls 7 [(4, .int (nI (0 + 10))), (3, .int (ck_wd V nc a0 0 10).1), (2, .int (ck_wd V nc a0 0 10).2), (0, .ref (ad 0)), (1, .int a0)] := hl
      refine lv_iload hx hb dX4_withWorstDigit_15 (lv_at hl 0 rfl) ?_
      refine lv_bipush (v := 9) hx hb dX4_withWorstDigit_17 (by decide) ?_
      refine lv_icmp_gt (tgt := 60) hx hb dX4_withWorstDigit_19 (by decide) (fun _ => ?_) (fun c_19 => absurd (by decide) c_19)
      refine lv_iload_n hx hb dX4_withWorstDigit_60 rfl (lv_at hl 2 rfl) ?_
      exact W.iret (v := (ck_wd V nc a0 0 10).2) hx hb hr (fun t ht hW9 => ⟨_, rfl, (by unfold ck_dig; rw [if_neg c_5]), ht⟩) (fun _ h => nomatch h) dX4_withWorstDigit_61
    · intro k15 hk15 hI15 ih15 ls hl
      have hl : lv_has ls 7 [(4, .int (nI (0 + k15))), (3, .int (ck_wd V nc a0 0 k15).1), (2, .int (ck_wd V nc a0 0 k15).2), (0, .ref (ad 0)), (1, .int a0)] := hl
      refine lv_iload hx hb dX4_withWorstDigit_15 (lv_at hl 0 rfl) ?_
      refine lv_bipush (v := 9) hx hb dX4_withWorstDigit_17 (by decide) ?_
      refine lv_icmp_gt (tgt := 60) hx hb dX4_withWorstDigit_19 (by decide) (fun c_19 => absurd c_19 (nI_nlt (a := 9) (b := 0 + k15) (by omega) (by decide))) (fun _ => ?_)
      refine lv_iload_n hx hb dX4_withWorstDigit_22 rfl (lv_at hl 4 rfl) ?_
      refine lv_bipush (v := 10) hx hb dX4_withWorstDigit_23 (by decide) ?_
      refine lv_imul hx hb dX4_withWorstDigit_25 ?_
      refine lv_iload hx hb dX4_withWorstDigit_26 (lv_at hl 0 rfl) ?_
      refine lv_iadd hx hb dX4_withWorstDigit_28 ?_
      refine lv_istore (lv' := [(5, .int (((a0 * 10)) + ((nI (0 + k15))))), (4, .int (nI (0 + k15))), (3, .int (ck_wd V nc a0 0 k15).1), (2, .int (ck_wd V nc a0 0 k15).2), (0, .ref (ad 0)), (1, .int a0)]) hx hb dX4_withWorstDigit_29 hl (by decide) rfl (fun ls hl => ?_)
      refine lv_aload_n hx hb dX4_withWorstDigit_31 rfl (lv_at hl 4 rfl) ?_
      refine lv_iload hx hb dX4_withWorstDigit_32 (lv_at hl 0 rfl) ?_
      refine ck_cVi (As := [.int (((a0 * 10)) + ((nI (0 + k15))))]) (rest := []) ⟨hx, hb, hml, hown, hts⟩ hKK (ct_X4_differenceUnder l G s.heap ad N F hW V L nc nr hC ((((a0 * 10)) + ((nI (0 + k15)))))) (cwV 1 hts gX4_withWorstDigit_X4_differenceUnder rfl rfl rfl (by decide +kernel) ⟨Nat.le_of_ble_eq_true rfl, Nat.le_of_ble_eq_true rfl⟩) (ck_recv hK hW (hC.n 0 (by decide)) hC.f0 rfl) rfl hl rfl (Nat.le_of_ble_eq_true rfl) dX4_withWorstDigit_34 ⟨Nat.le_of_ble_eq_true rfl, Nat.le_of_ble_eq_true rfl⟩ (fun r_34 h_34 => ?_)
      subst h_34
      refine va_mabs hx hb (hml.trans hl.1.symm) hown (hts _ (List.mem_of_getElem? (i := 1) rfl)) (hts _ (List.mem_of_getElem? (i := 2) rfl)) (hts _ (List.mem_of_getElem? (i := 3) rfl)) (hts _ (List.mem_of_getElem? (i := 4) rfl)) (Nat.le_of_ble_eq_true rfl) (Nat.le_of_ble_eq_true rfl) (Nat.le_of_ble_eq_true rfl) (Nat.le_of_ble_eq_true rfl) dX4_withWorstDigit_37 ?_
      refine lv_istore (lv' := [(6, .int (if 0 ≤ (ck_df V ((((a0 * 10)) + ((nI (0 + k15))))) nc) then (ck_df V ((((a0 * 10)) + ((nI (0 + k15))))) nc) else 0 - ((ck_df V ((((a0 * 10)) + ((nI (0 + k15))))) nc)))), (5, .int (((a0 * 10)) + ((nI (0 + k15))))), (4, .int (nI (0 + k15))), (3, .int (ck_wd V nc a0 0 k15).1), (2, .int (ck_wd V nc a0 0 k15).2), (0, .ref (ad 0)), (1, .int a0)]) hx hb dX4_withWorstDigit_40 hl (by decide) rfl (fun ls hl => ?_)
      refine lv_iload hx hb dX4_withWorstDigit_42 (lv_at hl 0 rfl) ?_
      refine lv_iload_n hx hb dX4_withWorstDigit_44 rfl (lv_at hl 3 rfl) ?_
      refine lv_icmp_le (tgt := 54) hx hb dX4_withWorstDigit_45 (by decide) (fun c_45 => ?_) (fun c_45 => ?_)
      · skip
        refine lv_iinc (v := nI ((0 + k15) + 1)) (lv' := [(4, .int (nI ((0 + k15) + 1))), (6, .int (if 0 ≤ (ck_df V ((((a0 * 10)) + ((nI (0 + k15))))) nc) then (ck_df V ((((a0 * 10)) + ((nI (0 + k15))))) nc) else 0 - ((ck_df V ((((a0 * 10)) + ((nI (0 + k15))))) nc)))), (5, .int (((a0 * 10)) + ((nI (0 + k15))))), (3, .int (ck_wd V nc a0 0 k15).1), (2, .int (ck_wd V nc a0 0 k15).2), (0, .ref (ad 0)), (1, .int a0)]) hx hb dX4_withWorstDigit_54 hl (k := 2) rfl (nI_1 (0 + k15)) (by decide) rfl (fun ls hl => ?_)
        refine lv_goto (tgt := 15) hx hb dX4_withWorstDigit_57 (by decide) ?_
        have e9 := ck_wd_no (V := V) (nc := nc) (d := 0) (k := k15) (q := a0) (Int32.not_lt.mpr c_45)
        have hl : lv_has ls 7 [(4, .int (nI (0 + (k15 + 1)))), (6, .int (if 0 ≤ (ck_df V ((((a0 * 10)) + ((nI (0 + k15))))) nc) then (ck_df V ((((a0 * 10)) + ((nI (0 + k15))))) nc) else 0 - ((ck_df V ((((a0 * 10)) + ((nI (0 + k15))))) nc)))), (5, .int (((a0 * 10)) + ((nI (0 + k15))))), (3, .int (ck_wd V nc a0 0 (k15 + 1)).1), (2, .int (ck_wd V nc a0 0 (k15 + 1)).2), (0, .ref (ad 0)), (1, .int a0)] := by rw [e9]; exact hl
        exact ih15 ls (lv_sub hl [0, 3, 4, 5, 6] rfl) (trivial)
      · skip
        refine lv_iload hx hb dX4_withWorstDigit_48 (lv_at hl 0 rfl) ?_
        refine lv_istore_n (lv' := [(3, .int (if 0 ≤ (ck_df V ((((a0 * 10)) + ((nI (0 + k15))))) nc) then (ck_df V ((((a0 * 10)) + ((nI (0 + k15))))) nc) else 0 - ((ck_df V ((((a0 * 10)) + ((nI (0 + k15))))) nc)))), (6, .int (if 0 ≤ (ck_df V ((((a0 * 10)) + ((nI (0 + k15))))) nc) then (ck_df V ((((a0 * 10)) + ((nI (0 + k15))))) nc) else 0 - ((ck_df V ((((a0 * 10)) + ((nI (0 + k15))))) nc)))), (5, .int (((a0 * 10)) + ((nI (0 + k15))))), (4, .int (nI (0 + k15))), (2, .int (ck_wd V nc a0 0 k15).2), (0, .ref (ad 0)), (1, .int a0)]) hx hb dX4_withWorstDigit_50 rfl hl (by decide) rfl (fun ls hl => ?_)
        refine lv_iload hx hb dX4_withWorstDigit_51 (lv_at hl 2 rfl) ?_
        refine lv_istore_n (lv' := [(2, .int (((a0 * 10)) + ((nI (0 + k15))))), (3, .int (if 0 ≤ (ck_df V ((((a0 * 10)) + ((nI (0 + k15))))) nc) then (ck_df V ((((a0 * 10)) + ((nI (0 + k15))))) nc) else 0 - ((ck_df V ((((a0 * 10)) + ((nI (0 + k15))))) nc)))), (6, .int (if 0 ≤ (ck_df V ((((a0 * 10)) + ((nI (0 + k15))))) nc) then (ck_df V ((((a0 * 10)) + ((nI (0 + k15))))) nc) else 0 - ((ck_df V ((((a0 * 10)) + ((nI (0 + k15))))) nc)))), (5, .int (((a0 * 10)) + ((nI (0 + k15))))), (4, .int (nI (0 + k15))), (0, .ref (ad 0)), (1, .int a0)]) hx hb dX4_withWorstDigit_53 rfl hl (by decide) rfl (fun ls hl => ?_)
        refine lv_iinc (v := nI ((0 + k15) + 1)) (lv' := [(4, .int (nI ((0 + k15) + 1))), (2, .int (((a0 * 10)) + ((nI (0 + k15))))), (3, .int (if 0 ≤ (ck_df V ((((a0 * 10)) + ((nI (0 + k15))))) nc) then (ck_df V ((((a0 * 10)) + ((nI (0 + k15))))) nc) else 0 - ((ck_df V ((((a0 * 10)) + ((nI (0 + k15))))) nc)))), (6, .int (if 0 ≤ (ck_df V ((((a0 * 10)) + ((nI (0 + k15))))) nc) then (ck_df V ((((a0 * 10)) + ((nI (0 + k15))))) nc) else 0 - ((ck_df V ((((a0 * 10)) + ((nI (0 + k15))))) nc)))), (5, .int (((a0 * 10)) + ((nI (0 + k15))))), (0, .ref (ad 0)), (1, .int a0)]) hx hb dX4_withWorstDigit_54 hl (k := 4) rfl (nI_1 (0 + k15)) (by decide) rfl (fun ls hl => ?_)
        refine lv_goto (tgt := 15) hx hb dX4_withWorstDigit_57 (by decide) ?_
        have e9 := ck_wd_yes (V := V) (nc := nc) (d := 0) (k := k15) (q := a0) (Int32.not_le.mp c_45)
        have hl : lv_has ls 7 [(4, .int (nI (0 + (k15 + 1)))), (2, .int (ck_wd V nc a0 0 (k15 + 1)).2), (3, .int (ck_wd V nc a0 0 (k15 + 1)).1), (6, .int (if 0 ≤ (ck_df V ((((a0 * 10)) + ((nI (0 + k15))))) nc) then (ck_df V ((((a0 * 10)) + ((nI (0 + k15))))) nc) else 0 - ((ck_df V ((((a0 * 10)) + ((nI (0 + k15))))) nc)))), (5, .int (((a0 * 10)) + ((nI (0 + k15))))), (0, .ref (ad 0)), (1, .int a0)] := by rw [e9]; exact hl
        exact ih15 ls (lv_sub hl [0, 2, 1, 5, 6] rfl) (trivial)
  · skip
    refine lv_iconst (v := 1) hx hb dX4_withWorstDigit_8 (by decide) ?_
    refine lv_goto (tgt := 13) hx hb dX4_withWorstDigit_9 (by decide) ?_
    refine lv_istore (lv' := [(4, .int 1), (3, .int (-1)), (2, .int 0), (0, .ref (ad 0)), (1, .int a0)]) hx hb dX4_withWorstDigit_13 hl (by decide) rfl (fun ls hl => ?_)
    refine ck_loop (P := fun ls => W p l e _ s m _ below meth c _ _ _ _ _ (F0 m _ ls _)) 9 (fun k => [(4, .int (nI (1 + k))), (3, .int (ck_wd V nc a0 1 k).1), (2, .int (ck_wd V nc a0 1 k).2), (0, .ref (ad 0)), (1, .int a0)]) (fun k => True) (lv_sub hl [0, 1, 2, 3, 4] rfl) (trivial) ?_ ?_
    · intro ls hl hI15
      have hl : lv_has ls 7 [(4, .int (nI (1 + 9))), (3, .int (ck_wd V nc a0 1 9).1), (2, .int (ck_wd V nc a0 1 9).2), (0, .ref (ad 0)), (1, .int a0)] := hl
      refine lv_iload hx hb dX4_withWorstDigit_15 (lv_at hl 0 rfl) ?_
      refine lv_bipush (v := 9) hx hb dX4_withWorstDigit_17 (by decide) ?_
      refine lv_icmp_gt (tgt := 60) hx hb dX4_withWorstDigit_19 (by decide) (fun _ => ?_) (fun c_19 => absurd (by decide) c_19)
      refine lv_iload_n hx hb dX4_withWorstDigit_60 rfl (lv_at hl 2 rfl) ?_
      exact W.iret (v := (ck_wd V nc a0 1 9).2) hx hb hr (fun t ht hW9 => ⟨_, rfl, (by unfold ck_dig; rw [if_pos c_5]), ht⟩) (fun _ h => nomatch h) dX4_withWorstDigit_61
    · intro k15 hk15 hI15 ih15 ls hl
      have hl : lv_has ls 7 [(4, .int (nI (1 + k15))), (3, .int (ck_wd V nc a0 1 k15).1), (2, .int (ck_wd V nc a0 1 k15).2), (0, .ref (ad 0)), (1, .int a0)] := hl
      refine lv_iload hx hb dX4_withWorstDigit_15 (lv_at hl 0 rfl) ?_
      refine lv_bipush (v := 9) hx hb dX4_withWorstDigit_17 (by decide) ?_
      refine lv_icmp_gt (tgt := 60) hx hb dX4_withWorstDigit_19 (by decide) (fun c_19 => absurd c_19 (nI_nlt (a := 9) (b := 1 + k15) (by omega) (by decide))) (fun _ => ?_)
      refine lv_iload_n hx hb dX4_withWorstDigit_22 rfl (lv_at hl 4 rfl) ?_
      refine lv_bipush (v := 10) hx hb dX4_withWorstDigit_23 (by decide) ?_
      refine lv_imul hx hb dX4_withWorstDigit_25 ?_
      refine lv_iload hx hb dX4_withWorstDigit_26 (lv_at hl 0 rfl) ?_
      refine lv_iadd hx hb dX4_withWorstDigit_28 ?_
      refine lv_istore (lv' := [(5, .int (((a0 * 10)) + ((nI (1 + k15))))), (4, .int (nI (1 + k15))), (3, .int (ck_wd V nc a0 1 k15).1), (2, .int (ck_wd V nc a0 1 k15).2), (0, .ref (ad 0)), (1, .int a0)]) hx hb dX4_withWorstDigit_29 hl (by decide) rfl (fun ls hl => ?_)
      refine lv_aload_n hx hb dX4_withWorstDigit_31 rfl (lv_at hl 4 rfl) ?_
      refine lv_iload hx hb dX4_withWorstDigit_32 (lv_at hl 0 rfl) ?_
      refine ck_cVi (As := [.int (((a0 * 10)) + ((nI (1 + k15))))]) (rest := []) ⟨hx, hb, hml, hown, hts⟩ hKK (ct_X4_differenceUnder l G s.heap ad N F hW V L nc nr hC ((((a0 * 10)) + ((nI (1 + k15)))))) (cwV 1 hts gX4_withWorstDigit_X4_differenceUnder rfl rfl rfl (by decide +kernel) ⟨Nat.le_of_ble_eq_true rfl, Nat.le_of_ble_eq_true rfl⟩) (ck_recv hK hW (hC.n 0 (by decide)) hC.f0 rfl) rfl hl rfl (Nat.le_of_ble_eq_true rfl) dX4_withWorstDigit_34 ⟨Nat.le_of_ble_eq_true rfl, Nat.le_of_ble_eq_true rfl⟩ (fun r_34 h_34 => ?_)
      subst h_34
      refine va_mabs hx hb (hml.trans hl.1.symm) hown (hts _ (List.mem_of_getElem? (i := 1) rfl)) (hts _ (List.mem_of_getElem? (i := 2) rfl)) (hts _ (List.mem_of_getElem? (i := 3) rfl)) (hts _ (List.mem_of_getElem? (i := 4) rfl)) (Nat.le_of_ble_eq_true rfl) (Nat.le_of_ble_eq_true rfl) (Nat.le_of_ble_eq_true rfl) (Nat.le_of_ble_eq_true rfl) dX4_withWorstDigit_37 ?_
      refine lv_istore (lv' := [(6, .int (if 0 ≤ (ck_df V ((((a0 * 10)) + ((nI (1 + k15))))) nc) then (ck_df V ((((a0 * 10)) + ((nI (1 + k15))))) nc) else 0 - ((ck_df V ((((a0 * 10)) + ((nI (1 + k15))))) nc)))), (5, .int (((a0 * 10)) + ((nI (1 + k15))))), (4, .int (nI (1 + k15))), (3, .int (ck_wd V nc a0 1 k15).1), (2, .int (ck_wd V nc a0 1 k15).2), (0, .ref (ad 0)), (1, .int a0)]) hx hb dX4_withWorstDigit_40 hl (by decide) rfl (fun ls hl => ?_)
      refine lv_iload hx hb dX4_withWorstDigit_42 (lv_at hl 0 rfl) ?_
      refine lv_iload_n hx hb dX4_withWorstDigit_44 rfl (lv_at hl 3 rfl) ?_
      refine lv_icmp_le (tgt := 54) hx hb dX4_withWorstDigit_45 (by decide) (fun c_45 => ?_) (fun c_45 => ?_)
      · skip
        refine lv_iinc (v := nI ((1 + k15) + 1)) (lv' := [(4, .int (nI ((1 + k15) + 1))), (6, .int (if 0 ≤ (ck_df V ((((a0 * 10)) + ((nI (1 + k15))))) nc) then (ck_df V ((((a0 * 10)) + ((nI (1 + k15))))) nc) else 0 - ((ck_df V ((((a0 * 10)) + ((nI (1 + k15))))) nc)))), (5, .int (((a0 * 10)) + ((nI (1 + k15))))), (3, .int (ck_wd V nc a0 1 k15).1), (2, .int (ck_wd V nc a0 1 k15).2), (0, .ref (ad 0)), (1, .int a0)]) hx hb dX4_withWorstDigit_54 hl (k := 2) rfl (nI_1 (1 + k15)) (by decide) rfl (fun ls hl => ?_)
        refine lv_goto (tgt := 15) hx hb dX4_withWorstDigit_57 (by decide) ?_
        have e9 := ck_wd_no (V := V) (nc := nc) (d := 1) (k := k15) (q := a0) (Int32.not_lt.mpr c_45)
        have hl : lv_has ls 7 [(4, .int (nI (1 + (k15 + 1)))), (6, .int (if 0 ≤ (ck_df V ((((a0 * 10)) + ((nI (1 + k15))))) nc) then (ck_df V ((((a0 * 10)) + ((nI (1 + k15))))) nc) else 0 - ((ck_df V ((((a0 * 10)) + ((nI (1 + k15))))) nc)))), (5, .int (((a0 * 10)) + ((nI (1 + k15))))), (3, .int (ck_wd V nc a0 1 (k15 + 1)).1), (2, .int (ck_wd V nc a0 1 (k15 + 1)).2), (0, .ref (ad 0)), (1, .int a0)] := by rw [e9]; exact hl
        exact ih15 ls (lv_sub hl [0, 3, 4, 5, 6] rfl) (trivial)
      · skip
        refine lv_iload hx hb dX4_withWorstDigit_48 (lv_at hl 0 rfl) ?_
        refine lv_istore_n (lv' := [(3, .int (if 0 ≤ (ck_df V ((((a0 * 10)) + ((nI (1 + k15))))) nc) then (ck_df V ((((a0 * 10)) + ((nI (1 + k15))))) nc) else 0 - ((ck_df V ((((a0 * 10)) + ((nI (1 + k15))))) nc)))), (6, .int (if 0 ≤ (ck_df V ((((a0 * 10)) + ((nI (1 + k15))))) nc) then (ck_df V ((((a0 * 10)) + ((nI (1 + k15))))) nc) else 0 - ((ck_df V ((((a0 * 10)) + ((nI (1 + k15))))) nc)))), (5, .int (((a0 * 10)) + ((nI (1 + k15))))), (4, .int (nI (1 + k15))), (2, .int (ck_wd V nc a0 1 k15).2), (0, .ref (ad 0)), (1, .int a0)]) hx hb dX4_withWorstDigit_50 rfl hl (by decide) rfl (fun ls hl => ?_)
        refine lv_iload hx hb dX4_withWorstDigit_51 (lv_at hl 2 rfl) ?_
        refine lv_istore_n (lv' := [(2, .int (((a0 * 10)) + ((nI (1 + k15))))), (3, .int (if 0 ≤ (ck_df V ((((a0 * 10)) + ((nI (1 + k15))))) nc) then (ck_df V ((((a0 * 10)) + ((nI (1 + k15))))) nc) else 0 - ((ck_df V ((((a0 * 10)) + ((nI (1 + k15))))) nc)))), (6, .int (if 0 ≤ (ck_df V ((((a0 * 10)) + ((nI (1 + k15))))) nc) then (ck_df V ((((a0 * 10)) + ((nI (1 + k15))))) nc) else 0 - ((ck_df V ((((a0 * 10)) + ((nI (1 + k15))))) nc)))), (5, .int (((a0 * 10)) + ((nI (1 + k15))))), (4, .int (nI (1 + k15))), (0, .ref (ad 0)), (1, .int a0)]) hx hb dX4_withWorstDigit_53 rfl hl (by decide) rfl (fun ls hl => ?_)
        refine lv_iinc (v := nI ((1 + k15) + 1)) (lv' := [(4, .int (nI ((1 + k15) + 1))), (2, .int (((a0 * 10)) + ((nI (1 + k15))))), (3, .int (if 0 ≤ (ck_df V ((((a0 * 10)) + ((nI (1 + k15))))) nc) then (ck_df V ((((a0 * 10)) + ((nI (1 + k15))))) nc) else 0 - ((ck_df V ((((a0 * 10)) + ((nI (1 + k15))))) nc)))), (6, .int (if 0 ≤ (ck_df V ((((a0 * 10)) + ((nI (1 + k15))))) nc) then (ck_df V ((((a0 * 10)) + ((nI (1 + k15))))) nc) else 0 - ((ck_df V ((((a0 * 10)) + ((nI (1 + k15))))) nc)))), (5, .int (((a0 * 10)) + ((nI (1 + k15))))), (0, .ref (ad 0)), (1, .int a0)]) hx hb dX4_withWorstDigit_54 hl (k := 4) rfl (nI_1 (1 + k15)) (by decide) rfl (fun ls hl => ?_)
        refine lv_goto (tgt := 15) hx hb dX4_withWorstDigit_57 (by decide) ?_
        have e9 := ck_wd_yes (V := V) (nc := nc) (d := 1) (k := k15) (q := a0) (Int32.not_le.mp c_45)
        have hl : lv_has ls 7 [(4, .int (nI (1 + (k15 + 1)))), (2, .int (ck_wd V nc a0 1 (k15 + 1)).2), (3, .int (ck_wd V nc a0 1 (k15 + 1)).1), (6, .int (if 0 ≤ (ck_df V ((((a0 * 10)) + ((nI (1 + k15))))) nc) then (ck_df V ((((a0 * 10)) + ((nI (1 + k15))))) nc) else 0 - ((ck_df V ((((a0 * 10)) + ((nI (1 + k15))))) nc)))), (5, .int (((a0 * 10)) + ((nI (1 + k15))))), (0, .ref (ad 0)), (1, .int a0)] := by rw [e9]; exact hl
        exact ih15 ls (lv_sub hl [0, 2, 1, 5, 6] rfl) (trivial)
