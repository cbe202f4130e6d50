def ck_la (g : Nat → Int32) (x : Int32) : Nat → Option Nat
  | 0 => none
  | k + 1 => if g k = x then some k else ck_la g x k
theorem ck_la_yes {g : Nat → Int32} {x : Int32} {k : Nat} (h : g k = x) : ck_la g x (k + 1) = some k := by simp only [ck_la]; rw [if_pos h]
theorem ck_la_no {g : Nat → Int32} {x : Int32} {k : Nat} (h : ¬ g k = x) : ck_la g x (k + 1) = ck_la g x k := by simp only [ck_la]; rw [if_neg h]
theorem ck_la_in {g : Nat → Int32} {x : Int32} : ∀ {n b : Nat}, ck_la g x n = some b → b < n ∧ g b = x
  | 0, b, h => by simp [ck_la] at h
  | n + 1, b, h => by
    by_cases c : g n = x
    · rw [ck_la_yes c] at h; cases h; exact ⟨by omega, c⟩
    · rw [ck_la_no c] at h; have := ck_la_in h; exact ⟨by omega, this.2⟩
theorem ck_la_none {g : Nat → Int32} {x : Int32} : ∀ {n : Nat}, ck_la g x n = none → ∀ k, k < n → ¬ g k = x
  | 0, h, k, hk => absurd hk (Nat.not_lt_zero _)
  | n + 1, h, k, hk => by
    by_cases c : g n = x
    · rw [ck_la_yes c] at h; cases h
    · rw [ck_la_no c] at h
      by_cases e : k = n
      · subst e; exact c
      · exact ck_la_none h k (by omega)
def ck_isO (a0 a1 a2 : Int32) : Prop := (0 ≤ a0 ∧ a0 ≤ 3) ∧ ck_isP a1 ∧ (-1 ≤ a2 ∧ a2 ≤ 10000)
def ck_gO (V : Nat → Nat → Int32) (q : Nat) : Nat → Int32 := fun k => V 29 (10 * q + k)
def ck_oAdd (V : Nat → Nat → Int32) (q m : Nat) (a1 a2 : Int32) : Nat → Nat → Int32 := va_up (va_up (va_up V 28 (upd (V 28) q (nI (m + 1)))) 29 (upd (V 29) (10 * q + m) a1)) 30 (upd (V 30) (10 * q + m) a2)
def ck_oDel (V : Nat → Nat → Int32) (q m b : Nat) : Nat → Nat → Int32 := va_up (va_up (va_up V 29 (upd (V 29) (10 * q + b) (V 29 (10 * q + (m - 1))))) 30 (upd (V 30) (10 * q + b) (V 30 (10 * q + (m - 1))))) 28 (upd (V 28) q (nI (m - 1)))
def ck_oSet (V : Nat → Nat → Int32) (q b : Nat) (a1 a2 : Int32) : Nat → Nat → Int32 := va_up (va_up (va_up V 28 (upd (V 28) q (V 28 q))) 29 (upd (V 29) (10 * q + b) a1)) 30 (upd (V 30) (10 * q + b) a2)
def ck_RoffM (V : Nat → Nat → Int32) (a0 a1 a2 k r : Int32) (V1 : Nat → Nat → Int32) : Prop := (¬ ck_isO a0 a1 a2 ∧ k = 1 ∧ V1 = V) ∨ (ck_isO a0 a1 a2 ∧ ∃ q, q < 4 ∧ a0 = nI q ∧
  ((ck_la (ck_gO V q) a1 (ck_cnt V q) = none ∧ a2 = -1 ∧ k = 0 ∧ r = -1 ∧ V1 = V) ∨
   (ck_la (ck_gO V q) a1 (ck_cnt V q) = none ∧ ¬ a2 = -1 ∧ ck_cnt V q = 10 ∧ k = 2 ∧ V1 = V) ∨
   (ck_la (ck_gO V q) a1 (ck_cnt V q) = none ∧ ¬ a2 = -1 ∧ ck_cnt V q < 10 ∧ k = 0 ∧ r = -1 ∧ V1 = ck_oAdd V q (ck_cnt V q) a1 a2) ∨
   (∃ b, b < ck_cnt V q ∧ ck_la (ck_gO V q) a1 (ck_cnt V q) = some b ∧ a2 = -1 ∧ k = 0 ∧ r = V 30 (10 * q + b) ∧ V1 = ck_oDel V q (ck_cnt V q) b) ∨
   (∃ b, b < ck_cnt V q ∧ ck_la (ck_gO V q) a1 (ck_cnt V q) = some b ∧ ¬ a2 = -1 ∧ k = 0 ∧ r = V 30 (10 * q + b) ∧ V1 = ck_oSet V q b a1 a2)))
theorem ck_nle_pred {x : Nat} (h : x < 2 ^ 31) : ¬ nI x ≤ nI x - 1 := by
  rw [fa_le, fb_subI (by rw [nI_toInt h]; show _ ≤ (x : Int) - 1; omega) (by rw [nI_toInt h]; show (x : Int) - 1 < _; omega), nI_toInt h]
  show ¬ (x : Int) ≤ (x : Int) - 1; omega
theorem ck_pred {x : Nat} (h : 0 < x) : nI x - 1 = nI (x - 1) := by
  obtain ⟨y, rfl⟩ : ∃ y, x = y + 1 := ⟨x - 1, by omega⟩
  exact nI_pred y
theorem ck_predsucc (x : Nat) : nI x - 1 + 1 = nI x := Int32.sub_add_cancel _ _
theorem ck_ten (q k : Nat) : (10 : Int32) * nI q + nI k = nI (10 * q + k) := by rw [ck_10, nI_add]
set_option maxHeartbeats 4000000 in
set_option maxRecDepth 100000 in
theorem ct_X5_offer (l : Launch) (G : ck_G) (H : Heap) (ad : Nat → Nat) (N : Nat → Prop) (F : Nat → va_E) (hW : ck_W G ad N F H) (V : Nat → Nat → Int32) (L : Nat → Nat → Int64) (nc nr : Nat) (t : Int32) (hM : ck_M G ad V L nc nr t N F) (hI : ck_I V nc nr) (hO : ck_oM V) (a0 a1 a2 : Int32) : Met l yX5_offer wsX5_offer ({ frames := 2, cells := 0, slots := 0, locals := 42 }) (ck_P G H [.ref (ad 30), .int a0, .int a1, .int a2]) (ck_Qi G (fun r H1 => ∃ t1 V1 F1, ck_RoffM V a0 a1 a2 t1 r V1 ∧ ck_W G ad N F1 H1 ∧ ck_M G ad V1 L nc nr t1 N F1 ∧ ck_sM F F1)) 0 0 (ck_A G) := by
  refine Met.ofW (cc := cX5_offer) (maxL := 7) (ret := (some .int)) (by decide) rfl ?_
  intro p e s m args below meth c s₁ B hml hv
  obtain ⟨rfl, hH, hKK⟩ := hv
  subst hH
  have hx := B.exec
  have hb := B.bytes
  have hr := B.returns
  have hts := atoms_spec (ws := wsX5_offer) B.pre
  have hown : s.vm.findClass RX5 = some m.cls := findClass_of_methodNamed B.named
  have hlocks := B.notSynchronized
  have hKK0 := hKK
  have hK := hKK.1.1
  have hS : va_S (ck_A G) s.heap s.heap [] := va_S.rf
  have hinX5 : ∀ w ∈ u_ws RX5 TX5 26, w ∈ wsX5_offer := by decide +kernel
  have hl := lv_entry ([.ref (ad 30), .int a0, .int a1, .int a2]) (n := 7) (Nat.le_of_ble_eq_true rfl)
  rw [lg_entry_eq]
  generalize (lg_sl ([.ref (ad 30), .int a0, .int a1, .int a2]) ++ List.replicate (7 - (lg_sl ([.ref (ad 30), .int a0, .int a1, .int a2])).length) Slot.unset).toArray = ls at hl ⊢
  have hl : lv_has ls 7 [(0, .ref (ad 30)), (1, .int a0), (2, .int a1), (3, .int a2)] := hl
  have hsm : ck_sM F F := ck_sM.rf
  have hp7 := hI.hp7
  have hn0 := hI.hn0
  have hst := hI.hst
  refine lv_aload_n hx hb dX5_offer_0 rfl (lv_at hl 0 rfl) ?_
  refine lv_iload_n hx hb dX5_offer_1 rfl (lv_at hl 1 rfl) ?_
  refine lv_iconst (v := 0) hx hb dX5_offer_2 (by decide) ?_
  refine lv_iconst (v := 3) hx hb dX5_offer_3 (by decide) ?_
  refine ck_cSi (As := [.int a0, .int 0, .int 3]) (rest := [.ref (ad 30)]) ⟨hx, hb, hml, hown, hts⟩ hKK (ct_X5_in l G s.heap a0 0 3) (va_cwS 3 hts gX5_offer_X5_in rfl rfl rfl (by decide +kernel) ⟨Nat.le_of_ble_eq_true rfl, Nat.le_of_ble_eq_true rfl⟩) rfl hl rfl (Nat.le_of_ble_eq_true rfl) dX5_offer_4 ⟨Nat.le_of_ble_eq_true rfl, Nat.le_of_ble_eq_true rfl⟩ (fun r_4 h_4 => ?_)
  rcases h_4 with ⟨h_4, rfl⟩ | ⟨h_4, rfl⟩
  · skip
    refine lv_if_eq (tgt := 32) hx hb dX5_offer_7 (by decide) (fun c_7 => absurd c_7 (by decide)) (fun _ => ?_)
    refine lv_iload_n hx hb dX5_offer_10 rfl (lv_at hl 2 rfl) ?_
    refine ck_cSi (As := [.int a1]) (rest := [.ref (ad 30)]) ⟨hx, hb, hml, hown, hts⟩ hKK (ct_X5_isPrefix l G s.heap a1) (va_cwS 1 hts gX5_offer_X5_isPrefix rfl rfl rfl (by decide +kernel) ⟨Nat.le_of_ble_eq_true rfl, Nat.le_of_ble_eq_true rfl⟩) rfl hl rfl (Nat.le_of_ble_eq_true rfl) dX5_offer_11 ⟨Nat.le_of_ble_eq_true rfl, Nat.le_of_ble_eq_true rfl⟩ (fun r_11 h_11 => ?_)
    rcases h_11 with ⟨h_11, rfl⟩ | ⟨h_11, rfl⟩
    · skip
      refine lv_if_eq (tgt := 32) hx hb dX5_offer_14 (by decide) (fun c_14 => absurd c_14 (by decide)) (fun _ => ?_)
      refine lv_iload_n hx hb dX5_offer_17 rfl (lv_at hl 3 rfl) ?_
      refine lv_iconst (v := (-1)) hx hb dX5_offer_18 (by decide) ?_
      refine ck_pc (q := 19) rfl ?_
      refine lv_sipush (v := 10000) hx hb dX5_offer_19 (by decide) ?_
      refine ck_cSi (As := [.int a2, .int (-1), .int 10000]) (rest := [.ref (ad 30)]) ⟨hx, hb, hml, hown, hts⟩ hKK (ct_X5_in l G s.heap a2 ((-1)) 10000) (va_cwS 3 hts gX5_offer_X5_in rfl rfl rfl (by decide +kernel) ⟨Nat.le_of_ble_eq_true rfl, Nat.le_of_ble_eq_true rfl⟩) rfl hl rfl (Nat.le_of_ble_eq_true rfl) dX5_offer_22 ⟨Nat.le_of_ble_eq_true rfl, Nat.le_of_ble_eq_true rfl⟩ (fun r_22 h_22 => ?_)
      rcases h_22 with ⟨h_22, rfl⟩ | ⟨h_22, rfl⟩
      · skip
        refine lv_if_eq (tgt := 32) hx hb dX5_offer_25 (by decide) (fun c_25 => absurd c_25 (by decide)) (fun _ => ?_)
        refine lv_iconst (v := 1) hx hb dX5_offer_28 (by decide) ?_
        refine lv_goto (tgt := 33) hx hb dX5_offer_29 (by decide) ?_
        refine ck_cVw (As := [.int 1]) (rest := []) ⟨hx, hb, hml, hown, hts⟩ hKK (ct_X5_asks1 l G s.heap ad N F hW V L nc nr t hM) (cwV 1 hts gX5_offer_X5_asks rfl rfl rfl (by decide +kernel) ⟨Nat.le_of_ble_eq_true rfl, Nat.le_of_ble_eq_true rfl⟩) (ck_recv hK hW (hM.n 30 (by decide) (by decide)) hM.f30 rfl) rfl hl rfl (Nat.le_of_ble_eq_true rfl) dX5_offer_33 ⟨Nat.le_of_ble_eq_true rfl, Nat.le_of_ble_eq_true rfl⟩ hS (fun r_33 H locs h_33 hz_33 hS => ?_)
        have hKK := hKK0.keep hS.2.1
        obtain ⟨rfl, F_33, hW, hM, hs33⟩ := h_33
        have hsm := hsm.tr hs33
        refine lv_if_ne (tgt := 41) hx hb dX5_offer_36 (by decide) (fun _ => ?_) (fun c_36 => absurd c_36 (by decide))
        obtain ⟨q, hq, rfl⟩ := ck_in4 h_4
        obtain ⟨hm, hm10, hmr⟩ := hO q hq
        obtain ⟨m0, em0⟩ : ∃ m0, ck_cnt V q = m0 := ⟨_, rfl⟩
        rw [em0] at hm hm10 hmr
        refine lv_iconst (v := (-1)) hx hb dX5_offer_41 (by decide) ?_
        refine lv_istore (lv' := [(4, .int (-1)), (0, .ref (ad 30)), (1, .int (nI q)), (2, .int a1), (3, .int a2)]) hx hb dX5_offer_42 hl (by decide) rfl (fun ls hl => ?_)
        refine lv_iconst (v := 0) hx hb dX5_offer_44 (by decide) ?_
        refine lv_istore (lv' := [(5, .int 0), (4, .int (-1)), (0, .ref (ad 30)), (1, .int (nI q)), (2, .int a1), (3, .int a2)]) hx hb dX5_offer_45 hl (by decide) rfl (fun ls hl => ?_)
        refine ck_loop (P := fun ls => W p l e _ s m _ below meth c _ _ _ _ _ (F0 m _ ls _)) m0 (fun k => [(5, .int (nI k)), (4, .int (ck_bo q (ck_la (ck_gO V q) a1 k))), (0, .ref (ad 30)), (1, .int (nI q)), (2, .int a1), (3, .int a2)]) (fun k => True) (lv_sub hl [0, 1, 2, 3, 4, 5] rfl) (trivial) ?_ ?_
        · intro ls hl hI47
          have hl : lv_has ls 7 [(5, .int (nI m0)), (4, .int (ck_bo q (ck_la (ck_gO V q) a1 m0))), (0, .ref (ad 30)), (1, .int (nI q)), (2, .int a1), (3, .int a2)] := hl
          refine lv_iload hx hb dX5_offer_47 (lv_at hl 0 rfl) ?_
          refine ck_pc (q := 49) rfl ?_
          refine lv_aload_n hx hb dX5_offer_49 rfl (lv_at hl 2 rfl) ?_
          refine ck_get (v := .ref (ad 49)) hx hb hts hinX5 hown hK hW (hM.n 30 (by decide) (by decide)) hM.f30 rfl 22 (by decide) (hts _ (List.mem_of_getElem? (i := 1) rfl)) rfl rfl dX5_offer_50 ?_
          refine lv_iload_n hx hb dX5_offer_53 rfl (lv_at hl 3 rfl) ?_
          refine ck_iald hx hb hK hW (hM.n 49 (by decide) (by decide)) hM.f49 q (rfl) (by omega) (by decide) dX5_offer_54 ?_
          refine lv_topi (fun y9 ey9 => ?_)
          have ey8 : y9 = nI m0 := ey9.trans (hm)
          subst ey8
          refine lv_icmp_ge (tgt := 94) hx hb dX5_offer_55 (by decide) (fun _ => ?_) (fun c_55 => absurd (Int32.le_refl _) c_55)
          refine lv_bipush (v := 10) hx hb dX5_offer_94 (by decide) ?_
          refine lv_iload_n hx hb dX5_offer_96 rfl (lv_at hl 3 rfl) ?_
          refine lv_imul hx hb dX5_offer_97 ?_
          refine lv_aload_n hx hb dX5_offer_98 rfl (lv_at hl 2 rfl) ?_
          refine ck_get (v := .ref (ad 49)) hx hb hts hinX5 hown hK hW (hM.n 30 (by decide) (by decide)) hM.f30 rfl 22 (by decide) (hts _ (List.mem_of_getElem? (i := 1) rfl)) rfl rfl dX5_offer_99 ?_
          refine lv_iload_n hx hb dX5_offer_102 rfl (lv_at hl 3 rfl) ?_
          refine ck_iald hx hb hK hW (hM.n 49 (by decide) (by decide)) hM.f49 q (rfl) (by omega) (by decide) dX5_offer_103 ?_
          refine ck_pc (q := 104) rfl ?_
          refine lv_iadd hx hb dX5_offer_104 ?_
          refine lv_iconst (v := 1) hx hb dX5_offer_105 (by decide) ?_
          refine lv_isub hx hb dX5_offer_106 ?_
          refine lv_topi (fun y9 ey9 => ?_)
          have ey8 : y9 = nI (10 * q + m0) - 1 := ey9.trans (by rw [hm, ck_ten])
          subst ey8
          refine lv_istore (lv' := [(5, .int (nI (10 * q + m0) - 1)), (4, .int (ck_bo q (ck_la (ck_gO V q) a1 m0))), (0, .ref (ad 30)), (1, .int (nI q)), (2, .int a1), (3, .int a2)]) hx hb dX5_offer_107 hl (by decide) rfl (fun ls hl => ?_)
          obtain ⟨ob, hob⟩ : ∃ ob, (ck_la (ck_gO V q) a1 m0) = ob := ⟨_, rfl⟩
          rw [hob] at hl
          rcases ob with _ | b
          · skip
            have hl : lv_has ls 7 [(5, .int (nI (10 * q + m0) - 1)), (4, .int (-1)), (0, .ref (ad 30)), (1, .int (nI q)), (2, .int a1), (3, .int a2)] := hl
            refine lv_iload hx hb dX5_offer_109 (lv_at hl 1 rfl) ?_
            refine lv_iconst (v := (-1)) hx hb dX5_offer_111 (by decide) ?_
            refine lv_icmp_ne (tgt := 122) hx hb dX5_offer_112 (by decide) (fun c_112 => absurd (by decide) c_112) (fun _ => ?_)
            refine lv_iload_n hx hb dX5_offer_115 rfl (lv_at hl 5 rfl) ?_
            refine lv_iconst (v := (-1)) hx hb dX5_offer_116 (by decide) ?_
            refine lv_icmp_ne (tgt := 122) hx hb dX5_offer_117 (by decide) (fun c_117 => ?_) (fun c_117 => ?_)
            · skip
              refine lv_iload hx hb dX5_offer_122 (lv_at hl 1 rfl) ?_
              refine lv_iconst (v := (-1)) hx hb dX5_offer_124 (by decide) ?_
              refine ck_pc (q := 125) rfl ?_
              refine lv_icmp_ne (tgt := 145) hx hb dX5_offer_125 (by decide) (fun c_125 => absurd (by decide) c_125) (fun _ => ?_)
              refine lv_aload_n hx hb dX5_offer_128 rfl (lv_at hl 2 rfl) ?_
              refine ck_get (v := .ref (ad 49)) hx hb hts hinX5 hown hK hW (hM.n 30 (by decide) (by decide)) hM.f30 rfl 22 (by decide) (hts _ (List.mem_of_getElem? (i := 1) rfl)) rfl rfl dX5_offer_129 ?_
              refine lv_iload_n hx hb dX5_offer_132 rfl (lv_at hl 3 rfl) ?_
              refine ck_iald hx hb hK hW (hM.n 49 (by decide) (by decide)) hM.f49 q (rfl) (by omega) (by decide) dX5_offer_133 ?_
              refine lv_bipush (v := 10) hx hb dX5_offer_134 (by decide) ?_
              refine lv_icmp_ne (tgt := 145) hx hb dX5_offer_136 (by decide) (fun c_136 => ?_) (fun c_136 => ?_)
              · skip
                have hm1 : m0 < 10 := Nat.lt_of_le_of_ne hm10 (fun z => c_136 (by rw [hm, z]; rfl))
                refine lv_iload hx hb dX5_offer_145 (lv_at hl 1 rfl) ?_
                refine lv_iconst (v := (-1)) hx hb dX5_offer_147 (by decide) ?_
                refine lv_icmp_ne (tgt := 155) hx hb dX5_offer_148 (by decide) (fun c_148 => absurd (by decide) c_148) (fun _ => ?_)
                refine lv_iconst (v := (-1)) hx hb dX5_offer_151 (by decide) ?_
                refine lv_goto (tgt := 162) hx hb dX5_offer_152 (by decide) ?_
                refine ck_pc (q := 162) rfl ?_
                refine lv_istore (lv' := [(6, .int (-1)), (5, .int (nI (10 * q + m0) - 1)), (4, .int (-1)), (0, .ref (ad 30)), (1, .int (nI q)), (2, .int a1), (3, .int a2)]) hx hb dX5_offer_162 hl (by decide) rfl (fun ls hl => ?_)
                refine lv_iload_n hx hb dX5_offer_164 rfl (lv_at hl 6 rfl) ?_
                refine lv_iconst (v := (-1)) hx hb dX5_offer_165 (by decide) ?_
                refine lv_icmp_ne (tgt := 210) hx hb dX5_offer_166 (by decide) (fun _ => ?_) (fun c_166 => absurd c_166 (c_117))
                refine lv_iload hx hb dX5_offer_210 (lv_at hl 2 rfl) ?_
                refine lv_iconst (v := (-1)) hx hb dX5_offer_212 (by decide) ?_
                refine lv_icmp_ne (tgt := 223) hx hb dX5_offer_213 (by decide) (fun c_213 => absurd (by decide) c_213) (fun _ => ?_)
                refine lv_iload hx hb dX5_offer_216 (lv_at hl 1 rfl) ?_
                refine lv_iconst (v := 1) hx hb dX5_offer_218 (by decide) ?_
                refine lv_iadd hx hb dX5_offer_219 ?_
                refine lv_goto (tgt := 225) hx hb dX5_offer_220 (by decide) ?_
                refine lv_topi (fun y9 ey9 => ?_)
                have ey8 : y9 = nI (10 * q + m0) := ey9.trans (ck_predsucc _)
                subst ey8
                refine lv_istore (lv' := [(4, .int (nI (10 * q + m0))), (6, .int (-1)), (5, .int (nI (10 * q + m0) - 1)), (0, .ref (ad 30)), (1, .int (nI q)), (2, .int a1), (3, .int a2)]) hx hb dX5_offer_225 hl (by decide) rfl (fun ls hl => ?_)
                refine ck_pc (q := 227) rfl ?_
                refine lv_aload_n hx hb dX5_offer_227 rfl (lv_at hl 3 rfl) ?_
                refine ck_get (v := .ref (ad 49)) hx hb hts hinX5 hown hK hW (hM.n 30 (by decide) (by decide)) hM.f30 rfl 22 (by decide) (hts _ (List.mem_of_getElem? (i := 1) rfl)) rfl rfl dX5_offer_228 ?_
                refine lv_iload_n hx hb dX5_offer_231 rfl (lv_at hl 4 rfl) ?_
                refine lv_dup2_11 hx hb dX5_offer_232 rfl rfl ?_
                refine ck_iald hx hb hK hW (hM.n 49 (by decide) (by decide)) hM.f49 q (rfl) (by omega) (by decide) dX5_offer_233 ?_
                refine lv_iload hx hb dX5_offer_234 (lv_at hl 0 rfl) ?_
                refine lv_iload hx hb dX5_offer_236 (lv_at hl 2 rfl) ?_
                refine lv_icmp_le (tgt := 245) hx hb dX5_offer_238 (by decide) (fun c_238 => absurd c_238 (ck_nle_pred (by omega))) (fun _ => ?_)
                refine lv_iconst (v := 1) hx hb dX5_offer_241 (by decide) ?_
                refine lv_goto (tgt := 246) hx hb dX5_offer_242 (by decide) ?_
                refine lv_iadd hx hb dX5_offer_246 ?_
                refine lv_topi (fun y9 ey9 => ?_)
                have ey8 : y9 = nI (m0 + 1) := ey9.trans (by rw [hm]; exact nI_1 m0)
                subst ey8
                refine ck_iast hx hb hK hW hS (hM.n 49 (by decide) (by decide)) hM.f49 q (rfl) (by omega) (by decide) dX5_offer_247 (fun H locs hW hS hz247 => ?_)
                obtain ⟨F_247, hFe247, hFo247, hW⟩ := ck_name hW
                have hM := hM.set49 (x := (upd ((V 28)) q ((nI (m0 + 1))))) hFe247 hFo247
                have hsm := hsm.put (by decide) hFo247
                have hKK := hKK0.keep hS.2.1
                refine ck_pc (q := 248) rfl ?_
                refine lv_aload_n hx hb dX5_offer_248 rfl (lv_at hl 3 rfl) ?_
                refine ck_get (v := .ref (ad 50)) hx hb hts hinX5 hown hK hW (hM.n 30 (by decide) (by decide)) hM.f30 rfl 23 (by decide) (hts _ (List.mem_of_getElem? (i := 2) rfl)) rfl rfl dX5_offer_249 ?_
                refine lv_iload hx hb dX5_offer_252 (lv_at hl 0 rfl) ?_
                refine lv_iload_n hx hb dX5_offer_254 rfl (lv_at hl 5 rfl) ?_
                refine ck_iast hx hb hK hW hS (hM.n 50 (by decide) (by decide)) hM.f50 (10 * q + m0) (rfl) (by omega) (by decide) dX5_offer_255 (fun H locs hW hS hz255 => ?_)
                obtain ⟨F_255, hFe255, hFo255, hW⟩ := ck_name hW
                have hM := hM.set50 (x := (upd ((V 29)) (10 * q + m0) a1)) hFe255 hFo255
                have hsm := hsm.put (by decide) hFo255
                have hKK := hKK0.keep hS.2.1
                refine lv_aload_n hx hb dX5_offer_256 rfl (lv_at hl 3 rfl) ?_
                refine ck_get (v := .ref (ad 51)) hx hb hts hinX5 hown hK hW (hM.n 30 (by decide) (by decide)) hM.f30 rfl 24 (by decide) (hts _ (List.mem_of_getElem? (i := 3) rfl)) rfl rfl dX5_offer_257 ?_
                refine lv_iload hx hb dX5_offer_260 (lv_at hl 0 rfl) ?_
                refine lv_iload_n hx hb dX5_offer_262 rfl (lv_at hl 6 rfl) ?_
                refine ck_iast hx hb hK hW hS (hM.n 51 (by decide) (by decide)) hM.f51 (10 * q + m0) (rfl) (by omega) (by decide) dX5_offer_263 (fun H locs hW hS hz263 => ?_)
                obtain ⟨F_263, hFe263, hFo263, hW⟩ := ck_name hW
                have hM := hM.set51 (x := (upd ((V 30)) (10 * q + m0) a2)) hFe263 hFo263
                have hsm := hsm.put (by decide) hFo263
                have hKK := hKK0.keep hS.2.1
                refine lv_iload hx hb dX5_offer_264 (lv_at hl 1 rfl) ?_
                exact W.iret (v := (-1)) hx hb hr (fun t ht hW9 => ⟨⟨_, rfl, by rw [ht]; exact ⟨_, _, F_263, Or.inr ⟨⟨h_4, h_11, h_22⟩, q, hq, rfl, by rw [em0]; exact Or.inr (Or.inr (Or.inl ⟨hob, c_117, hm1, rfl, rfl, rfl⟩))⟩, hW, hM, hsm⟩⟩, hS.F ht⟩) hS.2.2 dX5_offer_266
              · skip
                refine lv_aload_n hx hb dX5_offer_139 rfl (lv_at hl 2 rfl) ?_
                refine lv_iconst (v := 2) hx hb dX5_offer_140 (by decide) ?_
                refine ck_cVw (As := [.int 2]) (rest := []) ⟨hx, hb, hml, hown, hts⟩ hKK (ct_X5_fails l G H ad N F_33 hW V L nc nr 0 hM 2) (cwV 1 hts gX5_offer_X5_fails rfl rfl rfl (by decide +kernel) ⟨Nat.le_of_ble_eq_true rfl, Nat.le_of_ble_eq_true rfl⟩) (ck_recv hK hW (hM.n 30 (by decide) (by decide)) hM.f30 rfl) rfl hl rfl (Nat.le_of_ble_eq_true rfl) dX5_offer_141 ⟨Nat.le_of_ble_eq_true rfl, Nat.le_of_ble_eq_true rfl⟩ hS (fun r_141 H locs h_141 hz_141 hS => ?_)
                have hKK := hKK0.keep hS.2.1
                obtain ⟨rfl, F_141, hW, hM, hs141⟩ := h_141
                have hsm := hsm.tr hs141
                exact W.iret (v := 0) hx hb hr (fun t ht hW9 => ⟨⟨_, rfl, by rw [ht]; exact ⟨_, _, F_141, Or.inr ⟨⟨h_4, h_11, h_22⟩, q, hq, rfl, by rw [em0]; exact Or.inr (Or.inl ⟨hob, c_117, (nI_eq (by omega) (by decide)).mp (hm.symm.trans c_136), rfl, rfl⟩)⟩, hW, hM, hsm⟩⟩, hS.F ht⟩) hS.2.2 dX5_offer_144
            · skip
              refine lv_iconst (v := (-1)) hx hb dX5_offer_120 (by decide) ?_
              exact W.iret (v := (-1)) hx hb hr (fun t ht hW9 => ⟨⟨_, rfl, by rw [ht]; exact ⟨_, _, F_33, Or.inr ⟨⟨h_4, h_11, h_22⟩, q, hq, rfl, by rw [em0]; exact Or.inl ⟨hob, c_117, rfl, rfl, rfl⟩⟩, hW, hM, hsm⟩⟩, hS.F ht⟩) hS.2.2 dX5_offer_121
          · skip
            have hbm : b < m0 := (ck_la_in hob).1
            rw [ck_pred (show 0 < 10 * q + m0 by omega), show 10 * q + m0 - 1 = 10 * q + (m0 - 1) by omega] at hl
            have hl : lv_has ls 7 [(5, .int (nI (10 * q + (m0 - 1)))), (4, .int (nI (10 * q + b))), (0, .ref (ad 30)), (1, .int (nI q)), (2, .int a1), (3, .int a2)] := hl
            refine lv_iload hx hb dX5_offer_109 (lv_at hl 1 rfl) ?_
            refine lv_iconst (v := (-1)) hx hb dX5_offer_111 (by decide) ?_
            refine lv_icmp_ne (tgt := 122) hx hb dX5_offer_112 (by decide) (fun _ => ?_) (fun c_112 => absurd c_112 (ck_m1 (by omega)))
            refine lv_iload hx hb dX5_offer_122 (lv_at hl 1 rfl) ?_
            refine lv_iconst (v := (-1)) hx hb dX5_offer_124 (by decide) ?_
            refine lv_icmp_ne (tgt := 145) hx hb dX5_offer_125 (by decide) (fun _ => ?_) (fun c_125 => absurd c_125 (ck_m1 (by omega)))
            refine lv_iload hx hb dX5_offer_145 (lv_at hl 1 rfl) ?_
            refine lv_iconst (v := (-1)) hx hb dX5_offer_147 (by decide) ?_
            refine ck_pc (q := 148) rfl ?_
            refine lv_icmp_ne (tgt := 155) hx hb dX5_offer_148 (by decide) (fun _ => ?_) (fun c_148 => absurd c_148 (ck_m1 (by omega)))
            refine lv_aload_n hx hb dX5_offer_155 rfl (lv_at hl 2 rfl) ?_
            refine ck_get (v := .ref (ad 51)) hx hb hts hinX5 hown hK hW (hM.n 30 (by decide) (by decide)) hM.f30 rfl 24 (by decide) (hts _ (List.mem_of_getElem? (i := 3) rfl)) rfl rfl dX5_offer_156 ?_
            refine lv_iload hx hb dX5_offer_159 (lv_at hl 1 rfl) ?_
            refine ck_iald hx hb hK hW (hM.n 51 (by decide) (by decide)) hM.f51 (10 * q + b) (rfl) (by omega) (by decide) dX5_offer_161 ?_
            refine lv_istore (lv' := [(6, .int (((V 30)) (10 * q + b))), (5, .int (nI (10 * q + (m0 - 1)))), (4, .int (nI (10 * q + b))), (0, .ref (ad 30)), (1, .int (nI q)), (2, .int a1), (3, .int a2)]) hx hb dX5_offer_162 hl (by decide) rfl (fun ls hl => ?_)
            refine lv_iload_n hx hb dX5_offer_164 rfl (lv_at hl 6 rfl) ?_
            refine lv_iconst (v := (-1)) hx hb dX5_offer_165 (by decide) ?_
            refine lv_icmp_ne (tgt := 210) hx hb dX5_offer_166 (by decide) (fun c_166 => ?_) (fun c_166 => ?_)
            · skip
              refine lv_iload hx hb dX5_offer_210 (lv_at hl 2 rfl) ?_
              refine lv_iconst (v := (-1)) hx hb dX5_offer_212 (by decide) ?_
              refine lv_icmp_ne (tgt := 223) hx hb dX5_offer_213 (by decide) (fun _ => ?_) (fun c_213 => absurd c_213 (ck_m1 (by omega)))
              refine ck_pc (q := 223) rfl ?_
              refine lv_iload hx hb dX5_offer_223 (lv_at hl 2 rfl) ?_
              refine lv_istore (lv' := [(4, .int (nI (10 * q + b))), (6, .int (((V 30)) (10 * q + b))), (5, .int (nI (10 * q + (m0 - 1)))), (0, .ref (ad 30)), (1, .int (nI q)), (2, .int a1), (3, .int a2)]) hx hb dX5_offer_225 hl (by decide) rfl (fun ls hl => ?_)
              refine lv_aload_n hx hb dX5_offer_227 rfl (lv_at hl 3 rfl) ?_
              refine ck_get (v := .ref (ad 49)) hx hb hts hinX5 hown hK hW (hM.n 30 (by decide) (by decide)) hM.f30 rfl 22 (by decide) (hts _ (List.mem_of_getElem? (i := 1) rfl)) rfl rfl dX5_offer_228 ?_
              refine lv_iload_n hx hb dX5_offer_231 rfl (lv_at hl 4 rfl) ?_
              refine lv_dup2_11 hx hb dX5_offer_232 rfl rfl ?_
              refine ck_iald hx hb hK hW (hM.n 49 (by decide) (by decide)) hM.f49 q (rfl) (by omega) (by decide) dX5_offer_233 ?_
              refine lv_iload hx hb dX5_offer_234 (lv_at hl 0 rfl) ?_
              refine lv_iload hx hb dX5_offer_236 (lv_at hl 2 rfl) ?_
              refine lv_icmp_le (tgt := 245) hx hb dX5_offer_238 (by decide) (fun _ => ?_) (fun c_238 => absurd (nI_le (by omega) (by omega)) c_238)
              refine lv_iconst (v := 0) hx hb dX5_offer_245 (by decide) ?_
              refine lv_iadd hx hb dX5_offer_246 ?_
              refine lv_topi (fun y9 ey9 => ?_)
              have ey8 : y9 = V 28 q := ey9.trans (Int32.add_zero _)
              subst ey8
              refine ck_pc (q := 247) rfl ?_
              refine ck_iast hx hb hK hW hS (hM.n 49 (by decide) (by decide)) hM.f49 q (rfl) (by omega) (by decide) dX5_offer_247 (fun H locs hW hS hz247 => ?_)
              obtain ⟨F_247, hFe247, hFo247, hW⟩ := ck_name hW
              have hM := hM.set49 (x := (upd ((V 28)) q ((V 28 q)))) hFe247 hFo247
              have hsm := hsm.put (by decide) hFo247
              have hKK := hKK0.keep hS.2.1
              refine lv_aload_n hx hb dX5_offer_248 rfl (lv_at hl 3 rfl) ?_
              refine ck_get (v := .ref (ad 50)) hx hb hts hinX5 hown hK hW (hM.n 30 (by decide) (by decide)) hM.f30 rfl 23 (by decide) (hts _ (List.mem_of_getElem? (i := 2) rfl)) rfl rfl dX5_offer_249 ?_
              refine lv_iload hx hb dX5_offer_252 (lv_at hl 0 rfl) ?_
              refine lv_iload_n hx hb dX5_offer_254 rfl (lv_at hl 5 rfl) ?_
              refine ck_iast hx hb hK hW hS (hM.n 50 (by decide) (by decide)) hM.f50 (10 * q + b) (rfl) (by omega) (by decide) dX5_offer_255 (fun H locs hW hS hz255 => ?_)
              obtain ⟨F_255, hFe255, hFo255, hW⟩ := ck_name hW
              have hM := hM.set50 (x := (upd ((V 29)) (10 * q + b) a1)) hFe255 hFo255
              have hsm := hsm.put (by decide) hFo255
              have hKK := hKK0.keep hS.2.1
              refine lv_aload_n hx hb dX5_offer_256 rfl (lv_at hl 3 rfl) ?_
              refine ck_get (v := .ref (ad 51)) hx hb hts hinX5 hown hK hW (hM.n 30 (by decide) (by decide)) hM.f30 rfl 24 (by decide) (hts _ (List.mem_of_getElem? (i := 3) rfl)) rfl rfl dX5_offer_257 ?_
              refine lv_iload hx hb dX5_offer_260 (lv_at hl 0 rfl) ?_
              refine lv_iload_n hx hb dX5_offer_262 rfl (lv_at hl 6 rfl) ?_
              refine ck_iast hx hb hK hW hS (hM.n 51 (by decide) (by decide)) hM.f51 (10 * q + b) (rfl) (by omega) (by decide) dX5_offer_263 (fun H locs hW hS hz263 => ?_)
              obtain ⟨F_263, hFe263, hFo263, hW⟩ := ck_name hW
              have hM := hM.set51 (x := (upd ((V 30)) (10 * q + b) a2)) hFe263 hFo263
              have hsm := hsm.put (by decide) hFo263
              have hKK := hKK0.keep hS.2.1
              refine lv_iload hx hb dX5_offer_264 (lv_at hl 1 rfl) ?_
              refine ck_pc (q := 266) rfl ?_
              exact W.iret (v := (((V 30)) (10 * q + b))) hx hb hr (fun t ht hW9 => ⟨⟨_, rfl, by rw [ht]; exact ⟨_, _, F_263, Or.inr ⟨⟨h_4, h_11, h_22⟩, q, hq, rfl, by rw [em0]; exact Or.inr (Or.inr (Or.inr (Or.inr ⟨b, hbm, hob, c_166, rfl, rfl, rfl⟩)))⟩, hW, hM, hsm⟩⟩, hS.F ht⟩) hS.2.2 dX5_offer_266
            · skip
              refine lv_aload_n hx hb dX5_offer_169 rfl (lv_at hl 3 rfl) ?_
              refine ck_get (v := .ref (ad 50)) hx hb hts hinX5 hown hK hW (hM.n 30 (by decide) (by decide)) hM.f30 rfl 23 (by decide) (hts _ (List.mem_of_getElem? (i := 2) rfl)) rfl rfl dX5_offer_170 ?_
              refine lv_iload hx hb dX5_offer_173 (lv_at hl 2 rfl) ?_
              refine ck_pc (q := 175) rfl ?_
              refine lv_aload_n hx hb dX5_offer_175 rfl (lv_at hl 3 rfl) ?_
              refine ck_get (v := .ref (ad 50)) hx hb hts hinX5 hown hK hW (hM.n 30 (by decide) (by decide)) hM.f30 rfl 23 (by decide) (hts _ (List.mem_of_getElem? (i := 2) rfl)) rfl rfl dX5_offer_176 ?_
              refine lv_iload hx hb dX5_offer_179 (lv_at hl 1 rfl) ?_
              refine ck_iald hx hb hK hW (hM.n 50 (by decide) (by decide)) hM.f50 (10 * q + (m0 - 1)) (rfl) (by omega) (by decide) dX5_offer_181 ?_
              refine ck_iast hx hb hK hW hS (hM.n 50 (by decide) (by decide)) hM.f50 (10 * q + b) (rfl) (by omega) (by decide) dX5_offer_182 (fun H locs hW hS hz182 => ?_)
              obtain ⟨F_182, hFe182, hFo182, hW⟩ := ck_name hW
              have hM := hM.set50 (x := (upd ((V 29)) (10 * q + b) ((((V 29)) (10 * q + (m0 - 1)))))) hFe182 hFo182
              have hsm := hsm.put (by decide) hFo182
              have hKK := hKK0.keep hS.2.1
              refine lv_aload_n hx hb dX5_offer_183 rfl (lv_at hl 3 rfl) ?_
              refine ck_get (v := .ref (ad 51)) hx hb hts hinX5 hown hK hW (hM.n 30 (by decide) (by decide)) hM.f30 rfl 24 (by decide) (hts _ (List.mem_of_getElem? (i := 3) rfl)) rfl rfl dX5_offer_184 ?_
              refine lv_iload hx hb dX5_offer_187 (lv_at hl 2 rfl) ?_
              refine lv_aload_n hx hb dX5_offer_189 rfl (lv_at hl 3 rfl) ?_
              refine ck_get (v := .ref (ad 51)) hx hb hts hinX5 hown hK hW (hM.n 30 (by decide) (by decide)) hM.f30 rfl 24 (by decide) (hts _ (List.mem_of_getElem? (i := 3) rfl)) rfl rfl dX5_offer_190 ?_
              refine lv_iload hx hb dX5_offer_193 (lv_at hl 1 rfl) ?_
              refine ck_iald hx hb hK hW (hM.n 51 (by decide) (by decide)) hM.f51 (10 * q + (m0 - 1)) (rfl) (by omega) (by decide) dX5_offer_195 ?_
              refine ck_pc (q := 196) rfl ?_
              refine ck_iast hx hb hK hW hS (hM.n 51 (by decide) (by decide)) hM.f51 (10 * q + b) (rfl) (by omega) (by decide) dX5_offer_196 (fun H locs hW hS hz196 => ?_)
              obtain ⟨F_196, hFe196, hFo196, hW⟩ := ck_name hW
              have hM := hM.set51 (x := (upd ((V 30)) (10 * q + b) ((((V 30)) (10 * q + (m0 - 1)))))) hFe196 hFo196
              have hsm := hsm.put (by decide) hFo196
              have hKK := hKK0.keep hS.2.1
              refine lv_aload_n hx hb dX5_offer_197 rfl (lv_at hl 3 rfl) ?_
              refine ck_get (v := .ref (ad 49)) hx hb hts hinX5 hown hK hW (hM.n 30 (by decide) (by decide)) hM.f30 rfl 22 (by decide) (hts _ (List.mem_of_getElem? (i := 1) rfl)) rfl rfl dX5_offer_198 ?_
              refine lv_iload_n hx hb dX5_offer_201 rfl (lv_at hl 4 rfl) ?_
              refine lv_dup2_11 hx hb dX5_offer_202 rfl rfl ?_
              refine ck_iald hx hb hK hW (hM.n 49 (by decide) (by decide)) hM.f49 q (rfl) (by omega) (by decide) dX5_offer_203 ?_
              refine lv_iconst (v := 1) hx hb dX5_offer_204 (by decide) ?_
              refine lv_isub hx hb dX5_offer_205 ?_
              refine lv_topi (fun y9 ey9 => ?_)
              have ey8 : y9 = nI (m0 - 1) := ey9.trans (show V 28 q - 1 = nI (m0 - 1) by rw [hm]; exact ck_pred (by omega))
              subst ey8
              refine ck_iast hx hb hK hW hS (hM.n 49 (by decide) (by decide)) hM.f49 q (rfl) (by omega) (by decide) dX5_offer_206 (fun H locs hW hS hz206 => ?_)
              obtain ⟨F_206, hFe206, hFo206, hW⟩ := ck_name hW
              have hM := hM.set49 (x := (upd ((V 28)) q ((nI (m0 - 1))))) hFe206 hFo206
              have hsm := hsm.put (by decide) hFo206
              have hKK := hKK0.keep hS.2.1
              refine lv_goto (tgt := 264) hx hb dX5_offer_207 (by decide) ?_
              refine lv_iload hx hb dX5_offer_264 (lv_at hl 0 rfl) ?_
              exact W.iret (v := (((V 30)) (10 * q + b))) hx hb hr (fun t ht hW9 => ⟨⟨_, rfl, by rw [ht]; exact ⟨_, _, F_206, Or.inr ⟨⟨h_4, h_11, h_22⟩, q, hq, rfl, by rw [em0]; exact Or.inr (Or.inr (Or.inr (Or.inl ⟨b, hbm, hob, c_166, rfl, rfl, rfl⟩)))⟩, hW, hM, hsm⟩⟩, hS.F ht⟩) hS.2.2 dX5_offer_266
        · intro k47 hk47 hI47 ih47 ls hl
          have hl : lv_has ls 7 [(5, .int (nI k47)), (4, .int (ck_bo q (ck_la (ck_gO V q) a1 k47))), (0, .ref (ad 30)), (1, .int (nI q)), (2, .int a1), (3, .int a2)] := hl
          refine lv_iload hx hb dX5_offer_47 (lv_at hl 0 rfl) ?_
          refine ck_pc (q := 49) rfl ?_
          refine lv_aload_n hx hb dX5_offer_49 rfl (lv_at hl 2 rfl) ?_
          refine ck_get (v := .ref (ad 49)) hx hb hts hinX5 hown hK hW (hM.n 30 (by decide) (by decide)) hM.f30 rfl 22 (by decide) (hts _ (List.mem_of_getElem? (i := 1) rfl)) rfl rfl dX5_offer_50 ?_
          refine lv_iload_n hx hb dX5_offer_53 rfl (lv_at hl 3 rfl) ?_
          refine ck_iald hx hb hK hW (hM.n 49 (by decide) (by decide)) hM.f49 q (rfl) (by omega) (by decide) dX5_offer_54 ?_
          refine lv_topi (fun y9 ey9 => ?_)
          have ey8 : y9 = nI m0 := ey9.trans (hm)
          subst ey8
          refine lv_icmp_ge (tgt := 94) hx hb dX5_offer_55 (by decide) (fun c_55 => absurd c_55 (nI_ge hk47 (by omega))) (fun _ => ?_)
          refine lv_aload_n hx hb dX5_offer_58 rfl (lv_at hl 2 rfl) ?_
          refine ck_get (v := .ref (ad 50)) hx hb hts hinX5 hown hK hW (hM.n 30 (by decide) (by decide)) hM.f30 rfl 23 (by decide) (hts _ (List.mem_of_getElem? (i := 2) rfl)) rfl rfl dX5_offer_59 ?_
          refine lv_bipush (v := 10) hx hb dX5_offer_62 (by decide) ?_
          refine lv_iload_n hx hb dX5_offer_64 rfl (lv_at hl 3 rfl) ?_
          refine lv_imul hx hb dX5_offer_65 ?_
          refine lv_iload hx hb dX5_offer_66 (lv_at hl 0 rfl) ?_
          refine lv_iadd hx hb dX5_offer_68 ?_
          refine ck_pc (q := 69) rfl ?_
          refine ck_iald hx hb hK hW (hM.n 50 (by decide) (by decide)) hM.f50 (10 * q + k47) (ck_ten _ _) (by omega) (by decide) dX5_offer_69 ?_
          refine lv_iload_n hx hb dX5_offer_70 rfl (lv_at hl 4 rfl) ?_
          refine lv_icmp_ne (tgt := 84) hx hb dX5_offer_71 (by decide) (fun c_71 => ?_) (fun c_71 => ?_)
          · skip
            refine lv_iload hx hb dX5_offer_84 (lv_at hl 1 rfl) ?_
            refine lv_istore (lv' := [(4, .int (ck_bo q (ck_la (ck_gO V q) a1 k47))), (5, .int (nI k47)), (0, .ref (ad 30)), (1, .int (nI q)), (2, .int a1), (3, .int a2)]) hx hb dX5_offer_86 hl (by decide) rfl (fun ls hl => ?_)
            refine lv_iinc (v := nI (k47 + 1)) (lv' := [(5, .int (nI (k47 + 1))), (4, .int (ck_bo q (ck_la (ck_gO V q) a1 k47))), (0, .ref (ad 30)), (1, .int (nI q)), (2, .int a1), (3, .int a2)]) hx hb dX5_offer_88 hl (k := 1) rfl (nI_1 k47) (by decide) rfl (fun ls hl => ?_)
            refine lv_goto (tgt := 47) hx hb dX5_offer_91 (by decide) ?_
            have e9 : ck_la (ck_gO V q) a1 (k47 + 1) = _ := ck_la_no c_71
            have hl : lv_has ls 7 [(5, .int (nI (k47 + 1))), (4, .int (ck_bo q (ck_la (ck_gO V q) a1 (k47 + 1)))), (0, .ref (ad 30)), (1, .int (nI q)), (2, .int a1), (3, .int a2)] := by rw [e9]; exact hl
            exact ih47 ls (lv_sub hl [0, 1, 2, 3, 4, 5] rfl) (trivial)
          · skip
            refine lv_bipush (v := 10) hx hb dX5_offer_74 (by decide) ?_
            refine lv_iload_n hx hb dX5_offer_76 rfl (lv_at hl 3 rfl) ?_
            refine lv_imul hx hb dX5_offer_77 ?_
            refine lv_iload hx hb dX5_offer_78 (lv_at hl 0 rfl) ?_
            refine lv_iadd hx hb dX5_offer_80 ?_
            refine lv_goto (tgt := 86) hx hb dX5_offer_81 (by decide) ?_
            refine lv_topi (fun y9 ey9 => ?_)
            have ey8 : y9 = nI (10 * q + k47) := ey9.trans (ck_ten _ _)
            subst ey8
            refine lv_istore (lv' := [(4, .int (nI (10 * q + k47))), (5, .int (nI k47)), (0, .ref (ad 30)), (1, .int (nI q)), (2, .int a1), (3, .int a2)]) hx hb dX5_offer_86 hl (by decide) rfl (fun ls hl => ?_)
            refine lv_iinc (v := nI (k47 + 1)) (lv' := [(5, .int (nI (k47 + 1))), (4, .int (nI (10 * q + k47))), (0, .ref (ad 30)), (1, .int (nI q)), (2, .int a1), (3, .int a2)]) hx hb dX5_offer_88 hl (k := 1) rfl (nI_1 k47) (by decide) rfl (fun ls hl => ?_)
            refine lv_goto (tgt := 47) hx hb dX5_offer_91 (by decide) ?_
            have e9 : ck_la (ck_gO V q) a1 (k47 + 1) = _ := ck_la_yes c_71
            have hl : lv_has ls 7 [(5, .int (nI (k47 + 1))), (4, .int (ck_bo q (ck_la (ck_gO V q) a1 (k47 + 1)))), (0, .ref (ad 30)), (1, .int (nI q)), (2, .int a1), (3, .int a2)] := by rw [e9]; exact hl
            exact ih47 ls (lv_sub hl [0, 1, 2, 3, 4, 5] rfl) (trivial)
      · skip
        refine lv_if_eq (tgt := 32) hx hb dX5_offer_25 (by decide) (fun _ => ?_) (fun c_25 => absurd (by decide) c_25)
        refine lv_iconst (v := 0) hx hb dX5_offer_32 (by decide) ?_
        refine ck_cVw (As := [.int 0]) (rest := []) ⟨hx, hb, hml, hown, hts⟩ hKK (ct_X5_asks0 l G s.heap ad N F hW V L nc nr t hM) (cwV 1 hts gX5_offer_X5_asks rfl rfl rfl (by decide +kernel) ⟨Nat.le_of_ble_eq_true rfl, Nat.le_of_ble_eq_true rfl⟩) (ck_recv hK hW (hM.n 30 (by decide) (by decide)) hM.f30 rfl) rfl hl rfl (Nat.le_of_ble_eq_true rfl) dX5_offer_33 ⟨Nat.le_of_ble_eq_true rfl, Nat.le_of_ble_eq_true rfl⟩ hS (fun r_33 H locs h_33 hz_33 hS => ?_)
        have hKK := hKK0.keep hS.2.1
        obtain ⟨rfl, F_33, hW, hM, hs33⟩ := h_33
        have hsm := hsm.tr hs33
        refine lv_if_ne (tgt := 41) hx hb dX5_offer_36 (by decide) (fun c_36 => absurd (by decide) c_36) (fun _ => ?_)
        refine lv_iconst (v := 0) hx hb dX5_offer_39 (by decide) ?_
        exact W.iret (v := 0) hx hb hr (fun t ht hW9 => ⟨⟨_, rfl, by rw [ht]; exact ⟨_, _, F_33, Or.inl ⟨fun z => h_22 z.2.2, rfl, rfl⟩, hW, hM, hsm⟩⟩, hS.F ht⟩) hS.2.2 dX5_offer_40
    · skip
      refine lv_if_eq (tgt := 32) hx hb dX5_offer_14 (by decide) (fun _ => ?_) (fun c_14 => absurd (by decide) c_14)
      refine lv_iconst (v := 0) hx hb dX5_offer_32 (by decide) ?_
      refine ck_cVw (As := [.int 0]) (rest := []) ⟨hx, hb, hml, hown, hts⟩ hKK (ct_X5_asks0 l G s.heap ad N F hW V L nc nr t hM) (cwV 1 hts gX5_offer_X5_asks rfl rfl rfl (by decide +kernel) ⟨Nat.le_of_ble_eq_true rfl, Nat.le_of_ble_eq_true rfl⟩) (ck_recv hK hW (hM.n 30 (by decide) (by decide)) hM.f30 rfl) rfl hl rfl (Nat.le_of_ble_eq_true rfl) dX5_offer_33 ⟨Nat.le_of_ble_eq_true rfl, Nat.le_of_ble_eq_true rfl⟩ hS (fun r_33 H locs h_33 hz_33 hS => ?_)
      have hKK := hKK0.keep hS.2.1
      obtain ⟨rfl, F_33, hW, hM, hs33⟩ := h_33
      have hsm := hsm.tr hs33
      refine ck_pc (q := 36) rfl ?_
      refine lv_if_ne (tgt := 41) hx hb dX5_offer_36 (by decide) (fun c_36 => absurd (by decide) c_36) (fun _ => ?_)
      refine lv_iconst (v := 0) hx hb dX5_offer_39 (by decide) ?_
      exact W.iret (v := 0) hx hb hr (fun t ht hW9 => ⟨⟨_, rfl, by rw [ht]; exact ⟨_, _, F_33, Or.inl ⟨fun z => h_11 z.2.1, rfl, rfl⟩, hW, hM, hsm⟩⟩, hS.F ht⟩) hS.2.2 dX5_offer_40
  · skip
    refine lv_if_eq (tgt := 32) hx hb dX5_offer_7 (by decide) (fun _ => ?_) (fun c_7 => absurd (by decide) c_7)
    refine lv_iconst (v := 0) hx hb dX5_offer_32 (by decide) ?_
    refine ck_cVw (As := [.int 0]) (rest := []) ⟨hx, hb, hml, hown, hts⟩ hKK (ct_X5_asks0 l G s.heap ad N F hW V L nc nr t hM) (cwV 1 hts gX5_offer_X5_asks rfl rfl rfl (by decide +kernel) ⟨Nat.le_of_ble_eq_true rfl, Nat.le_of_ble_eq_true rfl⟩) (ck_recv hK hW (hM.n 30 (by decide) (by decide)) hM.f30 rfl) rfl hl rfl (Nat.le_of_ble_eq_true rfl) dX5_offer_33 ⟨Nat.le_of_ble_eq_true rfl, Nat.le_of_ble_eq_true rfl⟩ hS (fun r_33 H locs h_33 hz_33 hS => ?_)
    have hKK := hKK0.keep hS.2.1
    obtain ⟨rfl, F_33, hW, hM, hs33⟩ := h_33
    have hsm := hsm.tr hs33
    refine lv_if_ne (tgt := 41) hx hb dX5_offer_36 (by decide) (fun c_36 => absurd (by decide) c_36) (fun _ => ?_)
    refine lv_iconst (v := 0) hx hb dX5_offer_39 (by decide) ?_
    exact W.iret (v := 0) hx hb hr (fun t ht hW9 => ⟨⟨_, rfl, by rw [ht]; exact ⟨_, _, F_33, Or.inl ⟨fun z => h_4 z.1, rfl, rfl⟩, hW, hM, hsm⟩⟩, hS.F ht⟩) hS.2.2 dX5_offer_40
