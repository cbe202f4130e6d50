theorem fb_rng (x : Int32) : -2147483648 ≤ x.toInt ∧ x.toInt < 2147483648 := ⟨Int32.le_toInt x, Int32.toInt_lt x⟩
theorem fa_lt (a b : Int32) : a < b ↔ a.toInt < b.toInt := Int32.lt_iff_toInt_lt
theorem fa_le (a b : Int32) : a ≤ b ↔ a.toInt ≤ b.toInt := Int32.le_iff_toInt_le
theorem fa_eq (a b : Int32) : a = b ↔ a.toInt = b.toInt := Int32.toInt_inj.symm
theorem fb_bmod {z : Int} (h1 : -2147483648 ≤ z) (h2 : z < 2147483648) : z.bmod (2 ^ 32) = z := by
  rw [Int.bmod_eq_of_le] <;> omega
theorem fb_addI {x y : Int32} (h1 : -2147483648 ≤ x.toInt + y.toInt) (h2 : x.toInt + y.toInt < 2147483648) : (x + y).toInt = x.toInt + y.toInt := by
  rw [Int32.toInt_add]; exact fb_bmod h1 h2
theorem fb_subI {x y : Int32} (h1 : -2147483648 ≤ x.toInt - y.toInt) (h2 : x.toInt - y.toInt < 2147483648) : (x - y).toInt = x.toInt - y.toInt := by
  rw [Int32.toInt_sub]; exact fb_bmod h1 h2
theorem fb_mulI {x y : Int32} (h1 : -2147483648 ≤ x.toInt * y.toInt) (h2 : x.toInt * y.toInt < 2147483648) : (x * y).toInt = x.toInt * y.toInt := by
  rw [Int32.toInt_mul]; exact fb_bmod h1 h2
def ck_rg (lo : Int) (x : Int32) (hi : Int) : Prop := lo ≤ x.toInt ∧ x.toInt ≤ hi
theorem ck_toI0 : (0 : Int32).toInt = 0 := rfl
theorem ck_m1 {b : Nat} (h : b < 2 ^ 31) : ¬ nI b = -1 := by
  intro e
  have e2 := (fa_eq _ _).mp e
  rw [nI_toInt h] at e2
  have : ((-1 : Int32)).toInt = -1 := rfl
  omega
set_option maxHeartbeats 4000000 in
set_option maxRecDepth 100000 in
theorem ct_X5_thrown (l : Launch) (G : ck_G) (H : Heap) (ad : Nat → Nat) (N : Nat → Prop) (F : Nat → va_E) (hW : ck_W G ad N F H) (V : Nat → Nat → Int32) (L : Nat → Nat → Int64) (nc nr : Nat) (t : Int32) (hM : ck_M G ad V L nc nr t N F) : Met l yX5_thrown wsX5_thrown ({ frames := 0, cells := 0, slots := 0, locals := 0 }) (ck_P G H [.ref (ad 30)]) (vp_Si (fun r => r = t)) 0 0 (fun _ => False) := by
  refine Met.ofW (cc := cX5_thrown) (maxL := 1) (ret := (some .int)) (by decide) rfl ?_
  intro p e s m args below meth c s₁ B hml hv
  obtain ⟨rfl, hH, hKK⟩ := hv
  subst hH
  have hx := B.exec
  have hb := B.bytes
  have hr := B.returns
  have hts := atoms_spec (ws := wsX5_thrown) B.pre
  have hown : s.vm.findClass RX5 = some m.cls := findClass_of_methodNamed B.named
  have hlocks := B.notSynchronized
  have hKK0 := hKK
  have hK := hKK.1.1
  have hinX5 : ∀ w ∈ u_ws RX5 TX5 26, w ∈ wsX5_thrown := by decide +kernel
  have hl := lv_entry ([.ref (ad 30)]) (n := 1) (Nat.le_of_ble_eq_true rfl)
  rw [lg_entry_eq]
  generalize (lg_sl ([.ref (ad 30)]) ++ List.replicate (1 - (lg_sl ([.ref (ad 30)])).length) Slot.unset).toArray = ls at hl ⊢
  have hl : lv_has ls 1 [(0, .ref (ad 30))] := hl
  refine lv_aload_n hx hb dX5_thrown_0 rfl (lv_at hl 0 rfl) ?_
  refine ck_get (v := .int t) hx hb hts hinX5 hown hK hW (hM.n 30 (by decide) (by decide)) hM.f30 rfl 25 (by decide) (hts _ (List.mem_of_getElem? (i := 1) rfl)) rfl rfl dX5_thrown_1 ?_
  exact W.iret (v := t) hx hb hr (fun t ht hW9 => ⟨_, rfl, rfl, ht⟩) (fun _ h => nomatch h) dX5_thrown_4
theorem ck_dvN {n : Nat} (h : n < 2 ^ 31) : ∀ k, ck_dv k (nI n) = nI (n / 10 ^ k)
  | 0 => by simp [ck_dv]
  | k + 1 => by
    have h2 : n / 10 ^ k < 2 ^ 31 := Nat.lt_of_le_of_lt (Nat.div_le_self _ _) h
    show ck_dv k (nI n) / 10 = _
    rw [ck_dvN h k, show (10 : Int32) = nI 10 from rfl, pk_div h2 (by decide) (by decide), Nat.div_div_eq_div_mul, Nat.pow_succ]
theorem ck_toN {x : Int32} (h0 : 0 ≤ x.toInt) : ∃ n : Nat, n < 2 ^ 31 ∧ x = nI n := nI_of (by rw [fa_lt]; show ¬ _ < (0 : Int32).toInt; rw [ck_toI0]; omega)
theorem ck_dv8 {x : Int32} (h0 : 0 ≤ x.toInt) (h1 : x.toInt ≤ 99999999) : ck_dv 8 x = 0 := by
  obtain ⟨n, hn, rfl⟩ := ck_toN h0
  rw [nI_toInt hn] at h1
  rw [ck_dvN hn, show n / 10 ^ 8 = 0 from Nat.div_eq_of_lt (by omega)]; rfl
set_option maxHeartbeats 4000000 in
set_option maxRecDepth 100000 in
theorem ct_X5_fits (l : Launch) (G : ck_G) (H : Heap) (a0 a1 : Int32) (h0 : 0 ≤ a0.toInt) (h1 : 0 ≤ a1.toInt) (h2 : a1.toInt ≤ 99999999) : Met l yX5_fits wsX5_fits ({ frames := 0, cells := 0, slots := 0, locals := 0 }) (ck_P G H [.int a0, .int a1]) (vp_Si (fun r => ck_b (ck_fit a0 a1 = true) r)) 0 0 (fun _ => False) := by
  refine Met.ofW (cc := cX5_fits) (maxL := 3) (ret := (some .boolean)) (by decide) rfl ?_
  intro p e s m args below meth c s₁ B hml hv
  obtain ⟨rfl, hH, hKK⟩ := hv
  subst hH
  have hx := B.exec
  have hb := B.bytes
  have hr := B.returns
  have hts := atoms_spec (ws := wsX5_fits) B.pre
  have hown : s.vm.findClass RX5 = some m.cls := findClass_of_methodNamed B.named
  have hlocks := B.notSynchronized
  have hKK0 := hKK
  have hK := hKK.1.1
  have hl := lv_entry ([.int a0, .int a1]) (n := 3) (Nat.le_of_ble_eq_true rfl)
  rw [lg_entry_eq]
  generalize (lg_sl ([.int a0, .int a1]) ++ List.replicate (3 - (lg_sl ([.int a0, .int a1])).length) Slot.unset).toArray = ls at hl ⊢
  have hl : lv_has ls 3 [(0, .int a0), (1, .int a1)] := hl
  refine lv_iload_n hx hb dX5_fits_0 rfl (lv_at hl 1 rfl) ?_
  refine lv_istore_n (lv' := [(2, .int a1), (0, .int a0), (1, .int a1)]) hx hb dX5_fits_1 rfl hl (by decide) rfl (fun ls hl => ?_)
  refine ck_loop (P := fun ls => W p l e _ s m _ below meth c _ _ _ _ _ (F0 m _ ls _)) 9 (fun k => [(2, .int (ck_dv k a1)), (0, .int a0), (1, .int a1)]) (fun k => k ≤ 8 ∧ ck_drop (8 - k) a0 (ck_dv k a1) = ck_drop 8 a0 a1) (lv_sub hl [0, 1, 2] rfl) (⟨Nat.zero_le _, rfl⟩) ?_ ?_
  · intro ls hl hI2
    have hl : lv_has ls 3 [(2, .int (ck_dv 9 a1)), (0, .int a0), (1, .int a1)] := hl
    exact absurd hI2.1 (by decide)
  · intro k2 hk2 hI2 ih2 ls hl
    have hl : lv_has ls 3 [(2, .int (ck_dv k2 a1)), (0, .int a0), (1, .int a1)] := hl
    refine lv_iload_n hx hb dX5_fits_2 rfl (lv_at hl 0 rfl) ?_
    refine lv_iload_n hx hb dX5_fits_3 rfl (lv_at hl 1 rfl) ?_
    refine lv_icmp_le (tgt := 15) hx hb dX5_fits_4 (by decide) (fun c_4 => ?_) (fun c_4 => ?_)
    · skip
      have hE : ck_drop 8 a0 a1 = ck_dv k2 a1 := hI2.2.symm.trans (ck_drop_stop (Int32.not_lt.mpr c_4) _)
      refine lv_iload_n hx hb dX5_fits_15 rfl (lv_at hl 0 rfl) ?_
      refine lv_iload_n hx hb dX5_fits_16 rfl (lv_at hl 1 rfl) ?_
      refine lv_icmp_ne (tgt := 24) hx hb dX5_fits_17 (by decide) (fun c_17 => ?_) (fun c_17 => ?_)
      · skip
        refine lv_iconst (v := 0) hx hb dX5_fits_24 (by decide) ?_
        exact W.zret (v := 0) hx hb hr rfl (fun t ht hW9 => ⟨_, rfl, Or.inr ⟨fun h => c_17 (hE.symm.trans (of_decide_eq_true h)), rfl⟩, ht⟩) (fun _ h => nomatch h) dX5_fits_25
      · skip
        refine lv_iconst (v := 1) hx hb dX5_fits_20 (by decide) ?_
        refine lv_goto (tgt := 25) hx hb dX5_fits_21 (by decide) ?_
        exact W.zret (v := 1) hx hb hr rfl (fun t ht hW9 => ⟨_, rfl, Or.inl ⟨decide_eq_true (hE.trans c_17), rfl⟩, ht⟩) (fun _ h => nomatch h) dX5_fits_25
    · skip
      refine lv_iload_n hx hb dX5_fits_7 rfl (lv_at hl 0 rfl) ?_
      refine lv_bipush (v := 10) hx hb dX5_fits_8 (by decide) ?_
      refine lv_idiv hx hb dX5_fits_10 (by decide) ?_
      refine lv_istore_n (lv' := [(2, .int (((ck_dv k2 a1)) / 10)), (0, .int a0), (1, .int a1)]) hx hb dX5_fits_11 rfl hl (by decide) rfl (fun ls hl => ?_)
      refine lv_goto (tgt := 2) hx hb dX5_fits_12 (by decide) ?_
      have hk8 : k2 < 8 := by
        rcases Nat.lt_or_ge k2 8 with h | h
        · exact h
        · have e8 : k2 = 8 := by omega
          subst e8; exact absurd (by rw [ck_dv8 h1 h2, fa_le]; exact h0) c_4
      exact ih2 ls (lv_sub hl [0, 1, 2] rfl) (⟨hk8, ck_drop_go hk8 (Int32.not_le.mp c_4) hI2.2⟩)
def ck_ap (a b : Int32) : Int32 := if a < b then b - a else a - b
set_option maxHeartbeats 4000000 in
set_option maxRecDepth 100000 in
theorem ct_X5_apart (l : Launch) (G : ck_G) (H : Heap) (a0 a1 : Int32) : Met l yX5_apart wsX5_apart ({ frames := 0, cells := 0, slots := 0, locals := 0 }) (ck_P G H [.int a0, .int a1]) (vp_Si (fun r => r = ck_ap a0 a1)) 0 0 (fun _ => False) := by
  refine Met.ofW (cc := cX5_apart) (maxL := 2) (ret := (some .int)) (by decide) rfl ?_
  intro p e s m args below meth c s₁ B hml hv
  obtain ⟨rfl, hH, hKK⟩ := hv
  subst hH
  have hx := B.exec
  have hb := B.bytes
  have hr := B.returns
  have hts := atoms_spec (ws := wsX5_apart) B.pre
  have hown : s.vm.findClass RX5 = some m.cls := findClass_of_methodNamed B.named
  have hlocks := B.notSynchronized
  have hKK0 := hKK
  have hK := hKK.1.1
  have hl := lv_entry ([.int a0, .int a1]) (n := 2) (Nat.le_of_ble_eq_true rfl)
  rw [lg_entry_eq]
  generalize (lg_sl ([.int a0, .int a1]) ++ List.replicate (2 - (lg_sl ([.int a0, .int a1])).length) Slot.unset).toArray = ls at hl ⊢
  have hl : lv_has ls 2 [(0, .int a0), (1, .int a1)] := hl
  refine lv_iload_n hx hb dX5_apart_0 rfl (lv_at hl 0 rfl) ?_
  refine lv_iload_n hx hb dX5_apart_1 rfl (lv_at hl 1 rfl) ?_
  refine lv_icmp_ge (tgt := 11) hx hb dX5_apart_2 (by decide) (fun c_2 => ?_) (fun c_2 => ?_)
  · skip
    refine lv_iload_n hx hb dX5_apart_11 rfl (lv_at hl 0 rfl) ?_
    refine lv_iload_n hx hb dX5_apart_12 rfl (lv_at hl 1 rfl) ?_
    refine lv_isub hx hb dX5_apart_13 ?_
    exact W.iret (v := (a0 - a1)) hx hb hr (fun t ht hW9 => ⟨_, rfl, (by unfold ck_ap; rw [if_neg (Int32.not_lt.mpr c_2)]), ht⟩) (fun _ h => nomatch h) dX5_apart_14
  · skip
    refine lv_iload_n hx hb dX5_apart_5 rfl (lv_at hl 1 rfl) ?_
    refine lv_iload_n hx hb dX5_apart_6 rfl (lv_at hl 0 rfl) ?_
    refine lv_isub hx hb dX5_apart_7 ?_
    refine lv_goto (tgt := 14) hx hb dX5_apart_8 (by decide) ?_
    exact W.iret (v := (a1 - a0)) hx hb hr (fun t ht hW9 => ⟨_, rfl, (by unfold ck_ap; rw [if_pos (Int32.not_le.mp c_2)]), ht⟩) (fun _ h => nomatch h) dX5_apart_14
set_option maxHeartbeats 4000000 in
set_option maxRecDepth 100000 in
theorem ct_X5_isCall (l : Launch) (G : ck_G) (H : Heap) (ad : Nat → Nat) (N : Nat → Prop) (F : Nat → va_E) (hW : ck_W G ad N F H) (V : Nat → Nat → Int32) (L : Nat → Nat → Int64) (nc nr : Nat) (t : Int32) (hM : ck_M G ad V L nc nr t N F) (a0 : Int32) : Met l yX5_isCall wsX5_isCall ({ frames := 0, cells := 0, slots := 0, locals := 0 }) (ck_P G H [.ref (ad 30), .int a0]) (vp_Si (fun r => ck_b (ck_ok a0 nc) r)) 0 0 (fun _ => False) := by
  refine Met.ofW (cc := cX5_isCall) (maxL := 2) (ret := (some .boolean)) (by decide) rfl ?_
  intro p e s m args below meth c s₁ B hml hv
  obtain ⟨rfl, hH, hKK⟩ := hv
  subst hH
  have hx := B.exec
  have hb := B.bytes
  have hr := B.returns
  have hts := atoms_spec (ws := wsX5_isCall) B.pre
  have hown : s.vm.findClass RX5 = some m.cls := findClass_of_methodNamed B.named
  have hlocks := B.notSynchronized
  have hKK0 := hKK
  have hK := hKK.1.1
  have hinX5 : ∀ w ∈ u_ws RX5 TX5 26, w ∈ wsX5_isCall := by decide +kernel
  have hl := lv_entry ([.ref (ad 30), .int a0]) (n := 2) (Nat.le_of_ble_eq_true rfl)
  rw [lg_entry_eq]
  generalize (lg_sl ([.ref (ad 30), .int a0]) ++ List.replicate (2 - (lg_sl ([.ref (ad 30), .int a0])).length) Slot.unset).toArray = ls at hl ⊢
  have hl : lv_has ls 2 [(0, .ref (ad 30)), (1, .int a0)] := hl
  refine lv_iload_n hx hb dX5_isCall_0 rfl (lv_at hl 1 rfl) ?_
  refine lv_if_lt (tgt := 16) hx hb dX5_isCall_1 (by decide) (fun c_1 => ?_) (fun c_1 => ?_)
  · skip
    refine lv_iconst (v := 0) hx hb dX5_isCall_16 (by decide) ?_
    exact W.zret (v := 0) hx hb hr rfl (fun t ht hW9 => ⟨_, rfl, Or.inr ⟨ck_ok_neg c_1, rfl⟩, ht⟩) (fun _ h => nomatch h) dX5_isCall_17
  · skip
    refine lv_iload_n hx hb dX5_isCall_4 rfl (lv_at hl 1 rfl) ?_
    refine lv_aload_n hx hb dX5_isCall_5 rfl (lv_at hl 0 rfl) ?_
    refine ck_get (v := .int (nI nc)) hx hb hts hinX5 hown hK hW (hM.n 30 (by decide) (by decide)) hM.f30 rfl 6 (by decide) (hts _ (List.mem_of_getElem? (i := 1) rfl)) rfl rfl dX5_isCall_6 ?_
    refine lv_icmp_ge (tgt := 16) hx hb dX5_isCall_9 (by decide) (fun c_9 => ?_) (fun c_9 => ?_)
    · skip
      refine lv_iconst (v := 0) hx hb dX5_isCall_16 (by decide) ?_
      exact W.zret (v := 0) hx hb hr rfl (fun t ht hW9 => ⟨_, rfl, Or.inr ⟨fun z => absurd z.2 (Int32.not_lt.mpr c_9), rfl⟩, ht⟩) (fun _ h => nomatch h) dX5_isCall_17
    · skip
      refine lv_iconst (v := 1) hx hb dX5_isCall_12 (by decide) ?_
      refine lv_goto (tgt := 17) hx hb dX5_isCall_13 (by decide) ?_
      exact W.zret (v := 1) hx hb hr rfl (fun t ht hW9 => ⟨_, rfl, Or.inl ⟨⟨Int32.not_lt.mp c_1, Int32.not_le.mp c_9⟩, rfl⟩, ht⟩) (fun _ h => nomatch h) dX5_isCall_17
set_option maxHeartbeats 4000000 in
set_option maxRecDepth 100000 in
theorem ct_X5_bookedOf (l : Launch) (G : ck_G) (H : Heap) (ad : Nat → Nat) (N : Nat → Prop) (F : Nat → va_E) (hW : ck_W G ad N F H) (V : Nat → Nat → Int32) (L : Nat → Nat → Int64) (nc nr : Nat) (t : Int32) (hM : ck_M G ad V L nc nr t N F) (k : Nat) (hk : k < 60) : Met l yX5_bookedOf wsX5_bookedOf ({ frames := 0, cells := 0, slots := 0, locals := 0 }) (ck_P G H [.ref (ad 30), .int (nI k)]) (vp_Si (fun r => r = ck_bk (V 5 k))) 0 0 (fun _ => False) := by
  refine Met.ofW (cc := cX5_bookedOf) (maxL := 2) (ret := (some .int)) (by decide) rfl ?_
  intro p e s m args below meth c s₁ B hml hv
  obtain ⟨rfl, hH, hKK⟩ := hv
  subst hH
  have hx := B.exec
  have hb := B.bytes
  have hr := B.returns
  have hts := atoms_spec (ws := wsX5_bookedOf) B.pre
  have hown : s.vm.findClass RX5 = some m.cls := findClass_of_methodNamed B.named
  have hlocks := B.notSynchronized
  have hKK0 := hKK
  have hK := hKK.1.1
  have hinX5 : ∀ w ∈ u_ws RX5 TX5 26, w ∈ wsX5_bookedOf := by decide +kernel
  have hl := lv_entry ([.ref (ad 30), .int (nI k)]) (n := 2) (Nat.le_of_ble_eq_true rfl)
  rw [lg_entry_eq]
  generalize (lg_sl ([.ref (ad 30), .int (nI k)]) ++ List.replicate (2 - (lg_sl ([.ref (ad 30), .int (nI k)])).length) Slot.unset).toArray = ls at hl ⊢
  have hl : lv_has ls 2 [(0, .ref (ad 30)), (1, .int (nI k))] := hl
  refine lv_aload_n hx hb dX5_bookedOf_0 rfl (lv_at hl 0 rfl) ?_
  refine ck_get (v := .ref (ad 41)) hx hb hts hinX5 hown hK hW (hM.n 30 (by decide) (by decide)) hM.f30 rfl 12 (by decide) (hts _ (List.mem_of_getElem? (i := 1) rfl)) rfl rfl dX5_bookedOf_1 ?_
  refine lv_iload_n hx hb dX5_bookedOf_4 rfl (lv_at hl 1 rfl) ?_
  refine ck_iald hx hb hK hW (hM.n 41 (by decide) (by decide)) hM.f41 k (rfl) (by omega) (by decide) dX5_bookedOf_5 ?_
  refine lv_iconst (v := (-1)) hx hb dX5_bookedOf_6 (by decide) ?_
  refine lv_icmp_ne (tgt := 14) hx hb dX5_bookedOf_7 (by decide) (fun c_7 => ?_) (fun c_7 => ?_)
  · skip
    refine lv_aload_n hx hb dX5_bookedOf_14 rfl (lv_at hl 0 rfl) ?_
    refine ck_get (v := .ref (ad 41)) hx hb hts hinX5 hown hK hW (hM.n 30 (by decide) (by decide)) hM.f30 rfl 12 (by decide) (hts _ (List.mem_of_getElem? (i := 1) rfl)) rfl rfl dX5_bookedOf_15 ?_
    refine lv_iload_n hx hb dX5_bookedOf_18 rfl (lv_at hl 1 rfl) ?_
    refine ck_iald hx hb hK hW (hM.n 41 (by decide) (by decide)) hM.f41 k (rfl) (by omega) (by decide) dX5_bookedOf_19 ?_
    exact W.iret (v := (((V 5)) k)) hx hb hr (fun t ht hW9 => ⟨_, rfl, (by unfold ck_bk; rw [if_neg c_7]), ht⟩) (fun _ h => nomatch h) dX5_bookedOf_20
  · skip
    refine lv_iconst (v := 0) hx hb dX5_bookedOf_10 (by decide) ?_
    refine lv_goto (tgt := 20) hx hb dX5_bookedOf_11 (by decide) ?_
    exact W.iret (v := 0) hx hb hr (fun t ht hW9 => ⟨_, rfl, (by unfold ck_bk; rw [if_pos c_7]), ht⟩) (fun _ h => nomatch h) dX5_bookedOf_20
theorem ck_ap_abs {x y : Int32} (hx : ck_rg 0 x 1000000) (hy : ck_rg 0 y 1000000) : ck_ap x y = ck_abs (y - x) := by
  obtain ⟨a1, a2⟩ := hx
  obtain ⟨b1, b2⟩ := hy
  have e1 : (y - x).toInt = y.toInt - x.toInt := fb_subI (by omega) (by omega)
  have e2 : (x - y).toInt = x.toInt - y.toInt := fb_subI (by omega) (by omega)
  unfold ck_ap ck_abs
  by_cases h : x < y
  · rw [if_pos h, if_pos (by rw [fa_le, e1, ck_toI0]; rw [fa_lt] at h; omega)]
  · rw [if_neg h]
    rw [fa_lt] at h
    by_cases h2 : 0 ≤ y - x
    · rw [if_pos h2]; rw [fa_le, e1, ck_toI0] at h2; rw [fa_eq, e1, e2]; omega
    · rw [if_neg h2, fa_eq, e2, fb_subI (by rw [e1, ck_toI0]; omega) (by rw [e1, ck_toI0]; omega), e1, ck_toI0]; omega
theorem ck_leg0 : ∀ b : Nat, b < 8 → ∀ q : Nat, q < 3 → ((nI b >>> (nI q &&& 31)) &&& 1 = 0 ↔ nI b &&& ((1 : Int32) <<< (nI q &&& 31)) = 0) := by decide +kernel
theorem ck_jn_go2 {m : Nat → Bool} {nc k z : Nat} (hk : k < nc) (hm : m k = false) (hI : ck_jn m k (nc - k) = z) : ck_jn m (k + 1) (nc - (k + 1)) = z := by
  rw [show nc - k = (nc - (k + 1)) + 1 by omega] at hI
  rw [← hI]; simp [ck_jn, hm]
theorem ck_jn_hit2 {m : Nat → Bool} {nc k z : Nat} (hk : k < nc) (hm : m k = true) (hI : ck_jn m k (nc - k) = z) : k = z := by
  rw [show nc - k = (nc - (k + 1)) + 1 by omega] at hI
  rw [← hI]; simp [ck_jn, hm]
theorem ck_jn_end2 {m : Nat → Bool} {nc z : Nat} (hI : ck_jn m nc (nc - nc) = z) : nc = z := by
  rw [Nat.sub_self] at hI; exact hI
set_option maxHeartbeats 4000000 in
set_option maxRecDepth 100000 in
theorem ct_X5_joined (l : Launch) (G : ck_G) (H : Heap) (ad : Nat → Nat) (N : Nat → Prop) (F : Nat → va_E) (hW : ck_W G ad N F H) (V : Nat → Nat → Int32) (L : Nat → Nat → Int64) (nc nr : Nat) (t : Int32) (hM : ck_M G ad V L nc nr t N F) (q : Nat) (hq : q < 3) (a1 a2 a3 : Int32) (hb1 : ∀ k, k < nc → ck_rg 0 (V 1 k) 1000000) (hb2 : ∀ k, k < nc → ck_rg 0 (V 2 k) 1000000) (hb3 : ∀ k, k < nc → ∃ b, b < 8 ∧ V 3 k = nI b) (h2 : ck_rg 0 a2 1000000) (h3 : ck_rg 0 a3 1000000) : Met l yX5_joined wsX5_joined ({ frames := 1, cells := 0, slots := 0, locals := 21 }) (ck_P G H [.ref (ad 30), .int (nI q), .int a1, .int a2, .int a3]) (vp_Si (fun r => r = nI (ck_jn (ck_mt V (V 13 0) (nI q) a1 a2 a3) 0 nc))) 0 0 (fun _ => False) := by
  refine Met.ofW (cc := cX5_joined) (maxL := 6) (ret := (some .int)) (by decide) rfl ?_
  intro p e s m args below meth c s₁ B hml hv
  obtain ⟨rfl, hH, hKK⟩ := hv
  subst hH
  have hx := B.exec
  have hb := B.bytes
  have hr := B.returns
  have hts := atoms_spec (ws := wsX5_joined) B.pre
  have hown : s.vm.findClass RX5 = some m.cls := findClass_of_methodNamed B.named
  have hlocks := B.notSynchronized
  have hKK0 := hKK
  have hK := hKK.1.1
  have hinX5 : ∀ w ∈ u_ws RX5 TX5 26, w ∈ wsX5_joined := by decide +kernel
  have hl := lv_entry ([.ref (ad 30), .int (nI q), .int a1, .int a2, .int a3]) (n := 6) (Nat.le_of_ble_eq_true rfl)
  rw [lg_entry_eq]
  generalize (lg_sl ([.ref (ad 30), .int (nI q), .int a1, .int a2, .int a3]) ++ List.replicate (6 - (lg_sl ([.ref (ad 30), .int (nI q), .int a1, .int a2, .int a3])).length) Slot.unset).toArray = ls at hl ⊢
  have hl : lv_has ls 6 [(0, .ref (ad 30)), (1, .int (nI q)), (2, .int a1), (3, .int a2), (4, .int a3)] := hl
  refine lv_iconst (v := 0) hx hb dX5_joined_0 (by decide) ?_
  refine lv_istore (lv' := [(5, .int 0), (0, .ref (ad 30)), (1, .int (nI q)), (2, .int a1), (3, .int a2), (4, .int a3)]) hx hb dX5_joined_1 hl (by decide) rfl (fun ls hl => ?_)
  refine ck_loop (P := fun ls => W p l e _ s m _ below meth c _ _ _ _ _ (F0 m _ ls _)) nc (fun k => [(5, .int (nI k)), (0, .ref (ad 30)), (1, .int (nI q)), (2, .int a1), (3, .int a2), (4, .int a3)]) (fun k => ck_jn (ck_mt V (V 13 0) (nI q) a1 a2 a3) k (nc - k) = ck_jn (ck_mt V (V 13 0) (nI q) a1 a2 a3) 0 nc) (lv_sub hl [0, 1, 2, 3, 4, 5] rfl) (rfl) ?_ ?_
  · intro ls hl hI3
    have hl : lv_has ls 6 [(5, .int (nI nc)), (0, .ref (ad 30)), (1, .int (nI q)), (2, .int a1), (3, .int a2), (4, .int a3)] := hl
    refine lv_iload hx hb dX5_joined_3 (lv_at hl 0 rfl) ?_
    refine lv_aload_n hx hb dX5_joined_5 rfl (lv_at hl 1 rfl) ?_
    refine ck_get (v := .int (nI nc)) hx hb hts hinX5 hown hK hW (hM.n 30 (by decide) (by decide)) hM.f30 rfl 6 (by decide) (hts _ (List.mem_of_getElem? (i := 1) rfl)) rfl rfl dX5_joined_6 ?_
    refine lv_icmp_ge (tgt := 83) hx hb dX5_joined_9 (by decide) (fun _ => ?_) (fun c_9 => absurd (Int32.le_refl _) c_9)
    refine lv_aload_n hx hb dX5_joined_83 rfl (lv_at hl 1 rfl) ?_
    refine ck_get (v := .int (nI nc)) hx hb hts hinX5 hown hK hW (hM.n 30 (by decide) (by decide)) hM.f30 rfl 6 (by decide) (hts _ (List.mem_of_getElem? (i := 1) rfl)) rfl rfl dX5_joined_84 ?_
    exact W.iret (v := (nI nc)) hx hb hr (fun t ht hW9 => ⟨_, rfl, congrArg nI (ck_jn_end2 hI3), ht⟩) (fun _ h => nomatch h) dX5_joined_87
  · intro k3 hk3 hI3 ih3 ls hl
    have hl : lv_has ls 6 [(5, .int (nI k3)), (0, .ref (ad 30)), (1, .int (nI q)), (2, .int a1), (3, .int a2), (4, .int a3)] := hl
    obtain ⟨b3, hb38, eb3⟩ := hb3 k3 hk3
    refine lv_iload hx hb dX5_joined_3 (lv_at hl 0 rfl) ?_
    refine lv_aload_n hx hb dX5_joined_5 rfl (lv_at hl 1 rfl) ?_
    refine ck_get (v := .int (nI nc)) hx hb hts hinX5 hown hK hW (hM.n 30 (by decide) (by decide)) hM.f30 rfl 6 (by decide) (hts _ (List.mem_of_getElem? (i := 1) rfl)) rfl rfl dX5_joined_6 ?_
    refine lv_icmp_ge (tgt := 83) hx hb dX5_joined_9 (by decide) (fun c_9 => absurd c_9 (nI_ge hk3 (by have := hM.nc; omega))) (fun _ => ?_)
    refine lv_aload_n hx hb dX5_joined_12 rfl (lv_at hl 1 rfl) ?_
    refine ck_get (v := .ref (ad 36)) hx hb hts hinX5 hown hK hW (hM.n 30 (by decide) (by decide)) hM.f30 rfl 7 (by decide) (hts _ (List.mem_of_getElem? (i := 2) rfl)) rfl rfl dX5_joined_13 ?_
    refine lv_iload hx hb dX5_joined_16 (lv_at hl 0 rfl) ?_
    refine ck_iald hx hb hK hW (hM.n 36 (by decide) (by decide)) hM.f36 k3 (rfl) (by have := hM.nc; omega) (by decide) dX5_joined_18 ?_
    refine lv_iload_n hx hb dX5_joined_19 rfl (lv_at hl 3 rfl) ?_
    refine lv_icmp_ne (tgt := 77) hx hb dX5_joined_20 (by decide) (fun c_20 => ?_) (fun c_20 => ?_)
    · skip
      refine lv_iinc (v := nI (k3 + 1)) (lv' := [(5, .int (nI (k3 + 1))), (0, .ref (ad 30)), (1, .int (nI q)), (2, .int a1), (3, .int a2), (4, .int a3)]) hx hb dX5_joined_77 hl (k := 0) rfl (nI_1 k3) (by decide) rfl (fun ls hl => ?_)
      refine lv_goto (tgt := 3) hx hb dX5_joined_80 (by decide) ?_
      exact ih3 ls (lv_sub hl [0, 1, 2, 3, 4, 5] rfl) (ck_jn_go2 hk3 (decide_eq_false fun z => c_20 z.1) hI3)
    · skip
      refine lv_aload_n hx hb dX5_joined_23 rfl (lv_at hl 1 rfl) ?_
      refine ck_get (v := .ref (ad 40)) hx hb hts hinX5 hown hK hW (hM.n 30 (by decide) (by decide)) hM.f30 rfl 11 (by decide) (hts _ (List.mem_of_getElem? (i := 3) rfl)) rfl rfl dX5_joined_24 ?_
      refine lv_iload hx hb dX5_joined_27 (lv_at hl 0 rfl) ?_
      refine ck_iald hx hb hK hW (hM.n 40 (by decide) (by decide)) hM.f40 k3 (rfl) (by have := hM.nc; omega) (by decide) dX5_joined_29 ?_
      refine lv_iload_n hx hb dX5_joined_30 rfl (lv_at hl 2 rfl) ?_
      refine lv_ishr hx hb dX5_joined_31 ?_
      refine lv_iconst (v := 1) hx hb dX5_joined_32 (by decide) ?_
      refine lv_iand hx hb dX5_joined_33 ?_
      refine lv_if_ne (tgt := 77) hx hb dX5_joined_34 (by decide) (fun c_34 => ?_) (fun c_34 => ?_)
      · skip
        refine lv_iinc (v := nI (k3 + 1)) (lv' := [(5, .int (nI (k3 + 1))), (0, .ref (ad 30)), (1, .int (nI q)), (2, .int a1), (3, .int a2), (4, .int a3)]) hx hb dX5_joined_77 hl (k := 0) rfl (nI_1 k3) (by decide) rfl (fun ls hl => ?_)
        refine lv_goto (tgt := 3) hx hb dX5_joined_80 (by decide) ?_
        exact ih3 ls (lv_sub hl [0, 1, 2, 3, 4, 5] rfl) (ck_jn_go2 hk3 (decide_eq_false fun z => c_34 (by rw [eb3]; exact (ck_leg0 b3 hb38 q hq).mpr (by rw [← eb3]; exact z.2.1))) hI3)
      · skip
        refine lv_aload_n hx hb dX5_joined_37 rfl (lv_at hl 1 rfl) ?_
        refine ck_get (v := .ref (ad 37)) hx hb hts hinX5 hown hK hW (hM.n 30 (by decide) (by decide)) hM.f30 rfl 8 (by decide) (hts _ (List.mem_of_getElem? (i := 4) rfl)) rfl rfl dX5_joined_38 ?_
        refine lv_iload hx hb dX5_joined_41 (lv_at hl 0 rfl) ?_
        refine ck_iald hx hb hK hW (hM.n 37 (by decide) (by decide)) hM.f37 k3 (rfl) (by have := hM.nc; omega) (by decide) dX5_joined_43 ?_
        refine lv_iload_n hx hb dX5_joined_44 rfl (lv_at hl 4 rfl) ?_
        refine ck_cSi (As := [.int (((V 1)) k3), .int a2]) (rest := []) ⟨hx, hb, hml, hown, hts⟩ hKK (ct_X5_apart l G s.heap ((((V 1)) k3)) a2) (va_cwS 2 hts gX5_joined_X5_apart rfl rfl rfl (by decide +kernel) ⟨Nat.le_of_ble_eq_true rfl, Nat.le_of_ble_eq_true rfl⟩) rfl hl rfl (Nat.le_of_ble_eq_true rfl) dX5_joined_45 ⟨Nat.le_of_ble_eq_true rfl, Nat.le_of_ble_eq_true rfl⟩ (fun r_45 h_45 => ?_)
        subst h_45
        refine lv_aload_n hx hb dX5_joined_48 rfl (lv_at hl 1 rfl) ?_
        refine ck_get (v := .int (V 13 0)) hx hb hts hinX5 hown hK hW (hM.n 30 (by decide) (by decide)) hM.f30 rfl 0 (by decide) (hts _ (List.mem_of_getElem? (i := 5) rfl)) rfl rfl dX5_joined_49 ?_
        refine lv_icmp_gt (tgt := 77) hx hb dX5_joined_52 (by decide) (fun c_52 => ?_) (fun c_52 => ?_)
        · skip
          refine lv_iinc (v := nI (k3 + 1)) (lv' := [(5, .int (nI (k3 + 1))), (0, .ref (ad 30)), (1, .int (nI q)), (2, .int a1), (3, .int a2), (4, .int a3)]) hx hb dX5_joined_77 hl (k := 0) rfl (nI_1 k3) (by decide) rfl (fun ls hl => ?_)
          refine lv_goto (tgt := 3) hx hb dX5_joined_80 (by decide) ?_
          exact ih3 ls (lv_sub hl [0, 1, 2, 3, 4, 5] rfl) (ck_jn_go2 hk3 (decide_eq_false fun z => absurd z.2.2.1 (Int32.not_le.mpr (by rw [← ck_ap_abs (hb1 k3 hk3) h2]; exact c_52))) hI3)
        · skip
          refine lv_aload_n hx hb dX5_joined_55 rfl (lv_at hl 1 rfl) ?_
          refine ck_get (v := .ref (ad 38)) hx hb hts hinX5 hown hK hW (hM.n 30 (by decide) (by decide)) hM.f30 rfl 9 (by decide) (hts _ (List.mem_of_getElem? (i := 6) rfl)) rfl rfl dX5_joined_56 ?_
          refine lv_iload hx hb dX5_joined_59 (lv_at hl 0 rfl) ?_
          refine ck_iald hx hb hK hW (hM.n 38 (by decide) (by decide)) hM.f38 k3 (rfl) (by have := hM.nc; omega) (by decide) dX5_joined_61 ?_
          refine lv_iload hx hb dX5_joined_62 (lv_at hl 5 rfl) ?_
          refine ck_cSi (As := [.int (((V 2)) k3), .int a3]) (rest := []) ⟨hx, hb, hml, hown, hts⟩ hKK (ct_X5_apart l G s.heap ((((V 2)) k3)) a3) (va_cwS 2 hts gX5_joined_X5_apart rfl rfl rfl (by decide +kernel) ⟨Nat.le_of_ble_eq_true rfl, Nat.le_of_ble_eq_true rfl⟩) rfl hl rfl (Nat.le_of_ble_eq_true rfl) dX5_joined_64 ⟨Nat.le_of_ble_eq_true rfl, Nat.le_of_ble_eq_true rfl⟩ (fun r_64 h_64 => ?_)
          subst h_64
          refine lv_aload_n hx hb dX5_joined_67 rfl (lv_at hl 1 rfl) ?_
          refine ck_get (v := .int (V 13 0)) hx hb hts hinX5 hown hK hW (hM.n 30 (by decide) (by decide)) hM.f30 rfl 0 (by decide) (hts _ (List.mem_of_getElem? (i := 5) rfl)) rfl rfl dX5_joined_68 ?_
          refine lv_icmp_gt (tgt := 77) hx hb dX5_joined_71 (by decide) (fun c_71 => ?_) (fun c_71 => ?_)
          · skip
            refine lv_iinc (v := nI (k3 + 1)) (lv' := [(5, .int (nI (k3 + 1))), (0, .ref (ad 30)), (1, .int (nI q)), (2, .int a1), (3, .int a2), (4, .int a3)]) hx hb dX5_joined_77 hl (k := 0) rfl (nI_1 k3) (by decide) rfl (fun ls hl => ?_)
            refine lv_goto (tgt := 3) hx hb dX5_joined_80 (by decide) ?_
            exact ih3 ls (lv_sub hl [0, 1, 2, 3, 4, 5] rfl) (ck_jn_go2 hk3 (decide_eq_false fun z => absurd z.2.2.2 (Int32.not_le.mpr (by rw [← ck_ap_abs (hb2 k3 hk3) h3]; exact c_71))) hI3)
          · skip
            refine lv_iload hx hb dX5_joined_74 (lv_at hl 0 rfl) ?_
            exact W.iret (v := (nI k3)) hx hb hr (fun t ht hW9 => ⟨_, rfl, congrArg nI (ck_jn_hit2 hk3 (decide_eq_true ⟨c_20, by rw [eb3]; exact (ck_leg0 b3 hb38 q hq).mp (by rw [← eb3]; exact c_34), by rw [← ck_ap_abs (hb1 k3 hk3) h2]; exact Int32.not_lt.mp c_52, by rw [← ck_ap_abs (hb2 k3 hk3) h3]; exact Int32.not_lt.mp c_71⟩) hI3), ht⟩) (fun _ h => nomatch h) dX5_joined_76
def ck_bi : Option Nat → Int32
  | none => -1
  | some b => nI b
theorem ck_best_yes2 {V : Nat → Nat → Int32} {x d : Int32} {k : Nat} (h1 : V 8 k ≤ d) (h2 : ck_fit (V 7 k) x = true) (h3 : ck_over V k (ck_best V x d k) = true) : ck_best V x d (k + 1) = some k := by
  simp only [ck_best]; rw [if_pos ⟨h1, h2, h3⟩]
theorem ck_best_no2 {V : Nat → Nat → Int32} {x d : Int32} {k : Nat} (h : ¬ (V 8 k ≤ d ∧ ck_fit (V 7 k) x = true ∧ ck_over V k (ck_best V x d k) = true)) : ck_best V x d (k + 1) = ck_best V x d k := by
  simp only [ck_best]; rw [if_neg h]
set_option maxHeartbeats 4000000 in
set_option maxRecDepth 100000 in
theorem ct_X5_rate (l : Launch) (G : ck_G) (H : Heap) (ad : Nat → Nat) (N : Nat → Prop) (F : Nat → va_E) (hW : ck_W G ad N F H) (V : Nat → Nat → Int32) (L : Nat → Nat → Int64) (nc nr : Nat) (t : Int32) (hM : ck_M G ad V L nc nr t N F) (a0 a1 : Int32) (hp7 : ∀ k, k < nr → 0 ≤ (V 7 k).toInt) (h0 : ck_rg 0 a0 99999999) : Met l yX5_rate wsX5_rate ({ frames := 1, cells := 0, slots := 0, locals := 22 }) (ck_P G H [.ref (ad 30), .int a0, .int a1]) (vp_Si (fun r => r = ck_bi (ck_best V a0 a1 nr))) 0 0 (fun _ => False) := by
  refine Met.ofW (cc := cX5_rate) (maxL := 6) (ret := (some .int)) (by decide) rfl ?_
  intro p e s m args below meth c s₁ B hml hv
  obtain ⟨rfl, hH, hKK⟩ := hv
  subst hH
  have hx := B.exec
  have hb := B.bytes
  have hr := B.returns
  have hts := atoms_spec (ws := wsX5_rate) B.pre
  have hown : s.vm.findClass RX5 = some m.cls := findClass_of_methodNamed B.named
  have hlocks := B.notSynchronized
  have hKK0 := hKK
  have hK := hKK.1.1
  have hinX5 : ∀ w ∈ u_ws RX5 TX5 26, w ∈ wsX5_rate := by decide +kernel
  have hl := lv_entry ([.ref (ad 30), .int a0, .int a1]) (n := 6) (Nat.le_of_ble_eq_true rfl)
  rw [lg_entry_eq]
  generalize (lg_sl ([.ref (ad 30), .int a0, .int a1]) ++ List.replicate (6 - (lg_sl ([.ref (ad 30), .int a0, .int a1])).length) Slot.unset).toArray = ls at hl ⊢
  have hl : lv_has ls 6 [(0, .ref (ad 30)), (1, .int a0), (2, .int a1)] := hl
  refine lv_iconst (v := (-1)) hx hb dX5_rate_0 (by decide) ?_
  refine lv_istore_n (lv' := [(3, .int (-1)), (0, .ref (ad 30)), (1, .int a0), (2, .int a1)]) hx hb dX5_rate_1 rfl hl (by decide) rfl (fun ls hl => ?_)
  refine lv_iconst (v := 0) hx hb dX5_rate_2 (by decide) ?_
  refine lv_istore (lv' := [(4, .int 0), (3, .int (-1)), (0, .ref (ad 30)), (1, .int a0), (2, .int a1)]) hx hb dX5_rate_3 hl (by decide) rfl (fun ls hl => ?_)
  refine ck_loop (P := fun ls => W p l e _ s m _ below meth c _ _ _ _ _ (F0 m _ ls _)) nr (fun k => [(4, .int (nI k)), (3, .int (ck_bi (ck_best V a0 a1 k))), (0, .ref (ad 30)), (1, .int a0), (2, .int a1)]) (fun k => True) (lv_sub hl [0, 1, 2, 3, 4] rfl) (trivial) ?_ ?_
  · intro ls hl hI5
    have hl : lv_has ls 6 [(4, .int (nI nr)), (3, .int (ck_bi (ck_best V a0 a1 nr))), (0, .ref (ad 30)), (1, .int a0), (2, .int a1)] := hl
    refine lv_iload hx hb dX5_rate_5 (lv_at hl 0 rfl) ?_
    refine lv_aload_n hx hb dX5_rate_7 rfl (lv_at hl 2 rfl) ?_
    refine ck_get (v := .int (nI nr)) hx hb hts hinX5 hown hK hW (hM.n 30 (by decide) (by decide)) hM.f30 rfl 15 (by decide) (hts _ (List.mem_of_getElem? (i := 1) rfl)) rfl rfl dX5_rate_8 ?_
    refine lv_icmp_ge (tgt := 117) hx hb dX5_rate_11 (by decide) (fun _ => ?_) (fun c_11 => absurd (Int32.le_refl _) c_11)
    refine lv_iload_n hx hb dX5_rate_117 rfl (lv_at hl 1 rfl) ?_
    exact W.iret (v := (ck_bi (ck_best V a0 a1 nr))) hx hb hr (fun t ht hW9 => ⟨_, rfl, rfl, ht⟩) (fun _ h => nomatch h) dX5_rate_118
  · intro k5 hk5 hI5 ih5 ls hl
    have hl : lv_has ls 6 [(4, .int (nI k5)), (3, .int (ck_bi (ck_best V a0 a1 k5))), (0, .ref (ad 30)), (1, .int a0), (2, .int a1)] := hl
    refine lv_iload hx hb dX5_rate_5 (lv_at hl 0 rfl) ?_
    refine lv_aload_n hx hb dX5_rate_7 rfl (lv_at hl 2 rfl) ?_
    refine ck_get (v := .int (nI nr)) hx hb hts hinX5 hown hK hW (hM.n 30 (by decide) (by decide)) hM.f30 rfl 15 (by decide) (hts _ (List.mem_of_getElem? (i := 1) rfl)) rfl rfl dX5_rate_8 ?_
    refine lv_icmp_ge (tgt := 117) hx hb dX5_rate_11 (by decide) (fun c_11 => absurd c_11 (nI_ge hk5 (by have := hM.nr; omega))) (fun _ => ?_)
    refine lv_aload_n hx hb dX5_rate_14 rfl (lv_at hl 2 rfl) ?_
    refine ck_get (v := .ref (ad 43)) hx hb hts hinX5 hown hK hW (hM.n 30 (by decide) (by decide)) hM.f30 rfl 16 (by decide) (hts _ (List.mem_of_getElem? (i := 2) rfl)) rfl rfl dX5_rate_15 ?_
    refine lv_iload hx hb dX5_rate_18 (lv_at hl 0 rfl) ?_
    refine ck_iald hx hb hK hW (hM.n 43 (by decide) (by decide)) hM.f43 k5 (rfl) (by have := hM.nr; omega) (by decide) dX5_rate_20 ?_
    refine lv_iload_n hx hb dX5_rate_21 rfl (lv_at hl 3 rfl) ?_
    refine ck_cSi (As := [.int (((V 7)) k5), .int a0]) (rest := []) ⟨hx, hb, hml, hown, hts⟩ hKK (ct_X5_fits l G s.heap ((((V 7)) k5)) a0 (hp7 k5 hk5) h0.1 h0.2) (va_cwS 2 hts gX5_rate_X5_fits rfl rfl rfl (by decide +kernel) ⟨Nat.le_of_ble_eq_true rfl, Nat.le_of_ble_eq_true rfl⟩) rfl hl rfl (Nat.le_of_ble_eq_true rfl) dX5_rate_22 ⟨Nat.le_of_ble_eq_true rfl, Nat.le_of_ble_eq_true rfl⟩ (fun r_22 h_22 => ?_)
    rcases h_22 with ⟨h_22, rfl⟩ | ⟨h_22, rfl⟩
    · skip
      refine lv_if_eq (tgt := 111) hx hb dX5_rate_25 (by decide) (fun c_25 => absurd c_25 (by decide)) (fun _ => ?_)
      refine lv_aload_n hx hb dX5_rate_28 rfl (lv_at hl 2 rfl) ?_
      refine ck_get (v := .ref (ad 44)) hx hb hts hinX5 hown hK hW (hM.n 30 (by decide) (by decide)) hM.f30 rfl 17 (by decide) (hts _ (List.mem_of_getElem? (i := 3) rfl)) rfl rfl dX5_rate_29 ?_
      refine lv_iload hx hb dX5_rate_32 (lv_at hl 0 rfl) ?_
      refine ck_iald hx hb hK hW (hM.n 44 (by decide) (by decide)) hM.f44 k5 (rfl) (by have := hM.nr; omega) (by decide) dX5_rate_34 ?_
      refine lv_iload_n hx hb dX5_rate_35 rfl (lv_at hl 4 rfl) ?_
      refine lv_icmp_gt (tgt := 111) hx hb dX5_rate_36 (by decide) (fun c_36 => ?_) (fun c_36 => ?_)
      · skip
        refine lv_iinc (v := nI (k5 + 1)) (lv' := [(4, .int (nI (k5 + 1))), (3, .int (ck_bi (ck_best V a0 a1 k5))), (0, .ref (ad 30)), (1, .int a0), (2, .int a1)]) hx hb dX5_rate_111 hl (k := 0) rfl (nI_1 k5) (by decide) rfl (fun ls hl => ?_)
        refine lv_goto (tgt := 5) hx hb dX5_rate_114 (by decide) ?_
        have e9 : ck_best V a0 a1 (k5 + 1) = _ := ck_best_no2 (fun z => absurd z.1 (Int32.not_le.mpr c_36))
        have hl : lv_has ls 6 [(4, .int (nI (k5 + 1))), (3, .int (ck_bi (ck_best V a0 a1 (k5 + 1)))), (0, .ref (ad 30)), (1, .int a0), (2, .int a1)] := by rw [e9]; exact hl
        exact ih5 ls (lv_sub hl [0, 1, 2, 3, 4] rfl) (trivial)
      · skip
        obtain ⟨ob, hob⟩ : ∃ ob, ck_best V a0 a1 k5 = ob := ⟨_, rfl⟩
        rw [hob] at hl
        rcases ob with _ | b
        · skip
          have hl : lv_has ls 6 [(4, .int (nI k5)), (3, .int (-1)), (0, .ref (ad 30)), (1, .int a0), (2, .int a1)] := hl
          refine lv_iload_n hx hb dX5_rate_39 rfl (lv_at hl 1 rfl) ?_
          refine lv_iconst (v := (-1)) hx hb dX5_rate_40 (by decide) ?_
          refine lv_icmp_eq (tgt := 92) hx hb dX5_rate_41 (by decide) (fun _ => ?_) (fun c_41 => absurd (by decide) c_41)
          refine lv_iconst (v := 1) hx hb dX5_rate_92 (by decide) ?_
          refine lv_goto (tgt := 97) hx hb dX5_rate_93 (by decide) ?_
          refine lv_istore (lv' := [(5, .int 1), (4, .int (nI k5)), (3, .int (-1)), (0, .ref (ad 30)), (1, .int a0), (2, .int a1)]) hx hb dX5_rate_97 hl (by decide) rfl (fun ls hl => ?_)
          refine lv_iload hx hb dX5_rate_99 (lv_at hl 0 rfl) ?_
          refine lv_if_eq (tgt := 109) hx hb dX5_rate_101 (by decide) (fun c_101 => absurd c_101 (by decide)) (fun _ => ?_)
          refine lv_iload hx hb dX5_rate_104 (lv_at hl 1 rfl) ?_
          refine lv_goto (tgt := 110) hx hb dX5_rate_106 (by decide) ?_
          refine lv_istore_n (lv' := [(3, .int (nI k5)), (5, .int 1), (4, .int (nI k5)), (0, .ref (ad 30)), (1, .int a0), (2, .int a1)]) hx hb dX5_rate_110 rfl hl (by decide) rfl (fun ls hl => ?_)
          refine lv_iinc (v := nI (k5 + 1)) (lv' := [(4, .int (nI (k5 + 1))), (3, .int (nI k5)), (5, .int 1), (0, .ref (ad 30)), (1, .int a0), (2, .int a1)]) hx hb dX5_rate_111 hl (k := 2) rfl (nI_1 k5) (by decide) rfl (fun ls hl => ?_)
          refine lv_goto (tgt := 5) hx hb dX5_rate_114 (by decide) ?_
          have e9 : ck_best V a0 a1 (k5 + 1) = _ := ck_best_yes2 (Int32.not_lt.mp c_36) h_22 (by rw [hob]; rfl)
          have hl : lv_has ls 6 [(4, .int (nI (k5 + 1))), (3, .int (ck_bi (ck_best V a0 a1 (k5 + 1)))), (5, .int 1), (0, .ref (ad 30)), (1, .int a0), (2, .int a1)] := by rw [e9]; exact hl
          exact ih5 ls (lv_sub hl [0, 1, 3, 4, 5] rfl) (trivial)
        · skip
          have hbk : b < k5 := ck_best_lt hob
          have hl : lv_has ls 6 [(4, .int (nI k5)), (3, .int (nI b)), (0, .ref (ad 30)), (1, .int a0), (2, .int a1)] := hl
          refine lv_iload_n hx hb dX5_rate_39 rfl (lv_at hl 1 rfl) ?_
          refine lv_iconst (v := (-1)) hx hb dX5_rate_40 (by decide) ?_
          refine lv_icmp_eq (tgt := 92) hx hb dX5_rate_41 (by decide) (fun c_41 => absurd c_41 (ck_m1 (by have := hM.nr; omega))) (fun _ => ?_)
          refine lv_aload_n hx hb dX5_rate_44 rfl (lv_at hl 2 rfl) ?_
          refine ck_get (v := .ref (ad 43)) hx hb hts hinX5 hown hK hW (hM.n 30 (by decide) (by decide)) hM.f30 rfl 16 (by decide) (hts _ (List.mem_of_getElem? (i := 2) rfl)) rfl rfl dX5_rate_45 ?_
          refine lv_iload hx hb dX5_rate_48 (lv_at hl 0 rfl) ?_
          refine ck_iald hx hb hK hW (hM.n 43 (by decide) (by decide)) hM.f43 k5 (rfl) (by have := hM.nr; omega) (by decide) dX5_rate_50 ?_
          refine lv_aload_n hx hb dX5_rate_51 rfl (lv_at hl 2 rfl) ?_
          refine ck_get (v := .ref (ad 43)) hx hb hts hinX5 hown hK hW (hM.n 30 (by decide) (by decide)) hM.f30 rfl 16 (by decide) (hts _ (List.mem_of_getElem? (i := 2) rfl)) rfl rfl dX5_rate_52 ?_
          refine lv_iload_n hx hb dX5_rate_55 rfl (lv_at hl 1 rfl) ?_
          refine ck_iald hx hb hK hW (hM.n 43 (by decide) (by decide)) hM.f43 b (rfl) (by have := hM.nr; omega) (by decide) dX5_rate_56 ?_
          refine lv_icmp_gt (tgt := 92) hx hb dX5_rate_57 (by decide) (fun c_57 => ?_) (fun c_57 => ?_)
          · skip
            refine lv_iconst (v := 1) hx hb dX5_rate_92 (by decide) ?_
            refine lv_goto (tgt := 97) hx hb dX5_rate_93 (by decide) ?_
            refine lv_istore (lv' := [(5, .int 1), (4, .int (nI k5)), (3, .int (nI b)), (0, .ref (ad 30)), (1, .int a0), (2, .int a1)]) hx hb dX5_rate_97 hl (by decide) rfl (fun ls hl => ?_)
            refine lv_iload hx hb dX5_rate_99 (lv_at hl 0 rfl) ?_
            refine lv_if_eq (tgt := 109) hx hb dX5_rate_101 (by decide) (fun c_101 => absurd c_101 (by decide)) (fun _ => ?_)
            refine lv_iload hx hb dX5_rate_104 (lv_at hl 1 rfl) ?_
            refine lv_goto (tgt := 110) hx hb dX5_rate_106 (by decide) ?_
            refine lv_istore_n (lv' := [(3, .int (nI k5)), (5, .int 1), (4, .int (nI k5)), (0, .ref (ad 30)), (1, .int a0), (2, .int a1)]) hx hb dX5_rate_110 rfl hl (by decide) rfl (fun ls hl => ?_)
            refine lv_iinc (v := nI (k5 + 1)) (lv' := [(4, .int (nI (k5 + 1))), (3, .int (nI k5)), (5, .int 1), (0, .ref (ad 30)), (1, .int a0), (2, .int a1)]) hx hb dX5_rate_111 hl (k := 2) rfl (nI_1 k5) (by decide) rfl (fun ls hl => ?_)
            refine lv_goto (tgt := 5) hx hb dX5_rate_114 (by decide) ?_
            have e9 : ck_best V a0 a1 (k5 + 1) = _ := ck_best_yes2 (Int32.not_lt.mp c_36) h_22 (by rw [hob]; exact decide_eq_true (Or.inl c_57))
            have hl : lv_has ls 6 [(4, .int (nI (k5 + 1))), (3, .int (ck_bi (ck_best V a0 a1 (k5 + 1)))), (5, .int 1), (0, .ref (ad 30)), (1, .int a0), (2, .int a1)] := by rw [e9]; exact hl
            exact ih5 ls (lv_sub hl [0, 1, 3, 4, 5] rfl) (trivial)
          · skip
            refine lv_aload_n hx hb dX5_rate_60 rfl (lv_at hl 2 rfl) ?_
            refine ck_get (v := .ref (ad 43)) hx hb hts hinX5 hown hK hW (hM.n 30 (by decide) (by decide)) hM.f30 rfl 16 (by decide) (hts _ (List.mem_of_getElem? (i := 2) rfl)) rfl rfl dX5_rate_61 ?_
            refine lv_iload hx hb dX5_rate_64 (lv_at hl 0 rfl) ?_
            refine ck_iald hx hb hK hW (hM.n 43 (by decide) (by decide)) hM.f43 k5 (rfl) (by have := hM.nr; omega) (by decide) dX5_rate_66 ?_
            refine lv_aload_n hx hb dX5_rate_67 rfl (lv_at hl 2 rfl) ?_
            refine ck_get (v := .ref (ad 43)) hx hb hts hinX5 hown hK hW (hM.n 30 (by decide) (by decide)) hM.f30 rfl 16 (by decide) (hts _ (List.mem_of_getElem? (i := 2) rfl)) rfl rfl dX5_rate_68 ?_
            refine lv_iload_n hx hb dX5_rate_71 rfl (lv_at hl 1 rfl) ?_
            refine ck_iald hx hb hK hW (hM.n 43 (by decide) (by decide)) hM.f43 b (rfl) (by have := hM.nr; omega) (by decide) dX5_rate_72 ?_
            refine lv_icmp_ne (tgt := 96) hx hb dX5_rate_73 (by decide) (fun c_73 => ?_) (fun c_73 => ?_)
            · skip
              refine lv_iconst (v := 0) hx hb dX5_rate_96 (by decide) ?_
              refine lv_istore (lv' := [(5, .int 0), (4, .int (nI k5)), (3, .int (nI b)), (0, .ref (ad 30)), (1, .int a0), (2, .int a1)]) hx hb dX5_rate_97 hl (by decide) rfl (fun ls hl => ?_)
              refine lv_iload hx hb dX5_rate_99 (lv_at hl 0 rfl) ?_
              refine lv_if_eq (tgt := 109) hx hb dX5_rate_101 (by decide) (fun _ => ?_) (fun c_101 => absurd (by decide) c_101)
              refine lv_iload_n hx hb dX5_rate_109 rfl (lv_at hl 2 rfl) ?_
              refine lv_istore_n (lv' := [(3, .int (nI b)), (5, .int 0), (4, .int (nI k5)), (0, .ref (ad 30)), (1, .int a0), (2, .int a1)]) hx hb dX5_rate_110 rfl hl (by decide) rfl (fun ls hl => ?_)
              refine lv_iinc (v := nI (k5 + 1)) (lv' := [(4, .int (nI (k5 + 1))), (3, .int (nI b)), (5, .int 0), (0, .ref (ad 30)), (1, .int a0), (2, .int a1)]) hx hb dX5_rate_111 hl (k := 2) rfl (nI_1 k5) (by decide) rfl (fun ls hl => ?_)
              refine lv_goto (tgt := 5) hx hb dX5_rate_114 (by decide) ?_
              have e9 : ck_best V a0 a1 (k5 + 1) = _ := ck_best_no2 (fun z => by have z2 := z.2.2; rw [hob] at z2; rcases of_decide_eq_true z2 with y | y; exact c_57 y; exact c_73 y.1.symm)
              have hl : lv_has ls 6 [(4, .int (nI (k5 + 1))), (3, .int (ck_bi (ck_best V a0 a1 (k5 + 1)))), (5, .int 0), (0, .ref (ad 30)), (1, .int a0), (2, .int a1)] := by rw [e9, hob]; exact hl
              exact ih5 ls (lv_sub hl [0, 1, 3, 4, 5] rfl) (trivial)
            · skip
              refine lv_aload_n hx hb dX5_rate_76 rfl (lv_at hl 2 rfl) ?_
              refine ck_get (v := .ref (ad 44)) hx hb hts hinX5 hown hK hW (hM.n 30 (by decide) (by decide)) hM.f30 rfl 17 (by decide) (hts _ (List.mem_of_getElem? (i := 3) rfl)) rfl rfl dX5_rate_77 ?_
              refine lv_iload hx hb dX5_rate_80 (lv_at hl 0 rfl) ?_
              refine ck_iald hx hb hK hW (hM.n 44 (by decide) (by decide)) hM.f44 k5 (rfl) (by have := hM.nr; omega) (by decide) dX5_rate_82 ?_
              refine lv_aload_n hx hb dX5_rate_83 rfl (lv_at hl 2 rfl) ?_
              refine ck_get (v := .ref (ad 44)) hx hb hts hinX5 hown hK hW (hM.n 30 (by decide) (by decide)) hM.f30 rfl 17 (by decide) (hts _ (List.mem_of_getElem? (i := 3) rfl)) rfl rfl dX5_rate_84 ?_
              refine lv_iload_n hx hb dX5_rate_87 rfl (lv_at hl 1 rfl) ?_
              refine ck_iald hx hb hK hW (hM.n 44 (by decide) (by decide)) hM.f44 b (rfl) (by have := hM.nr; omega) (by decide) dX5_rate_88 ?_
              refine lv_icmp_lt (tgt := 96) hx hb dX5_rate_89 (by decide) (fun c_89 => ?_) (fun c_89 => ?_)
              · skip
                refine lv_iconst (v := 0) hx hb dX5_rate_96 (by decide) ?_
                refine lv_istore (lv' := [(5, .int 0), (4, .int (nI k5)), (3, .int (nI b)), (0, .ref (ad 30)), (1, .int a0), (2, .int a1)]) hx hb dX5_rate_97 hl (by decide) rfl (fun ls hl => ?_)
                refine lv_iload hx hb dX5_rate_99 (lv_at hl 0 rfl) ?_
                refine lv_if_eq (tgt := 109) hx hb dX5_rate_101 (by decide) (fun _ => ?_) (fun c_101 => absurd (by decide) c_101)
                refine lv_iload_n hx hb dX5_rate_109 rfl (lv_at hl 2 rfl) ?_
                refine lv_istore_n (lv' := [(3, .int (nI b)), (5, .int 0), (4, .int (nI k5)), (0, .ref (ad 30)), (1, .int a0), (2, .int a1)]) hx hb dX5_rate_110 rfl hl (by decide) rfl (fun ls hl => ?_)
                refine lv_iinc (v := nI (k5 + 1)) (lv' := [(4, .int (nI (k5 + 1))), (3, .int (nI b)), (5, .int 0), (0, .ref (ad 30)), (1, .int a0), (2, .int a1)]) hx hb dX5_rate_111 hl (k := 2) rfl (nI_1 k5) (by decide) rfl (fun ls hl => ?_)
                refine lv_goto (tgt := 5) hx hb dX5_rate_114 (by decide) ?_
                have e9 : ck_best V a0 a1 (k5 + 1) = _ := ck_best_no2 (fun z => by have z2 := z.2.2; rw [hob] at z2; rcases of_decide_eq_true z2 with y | y; exact c_57 y; exact absurd y.2 (Int32.not_le.mpr c_89))
                have hl : lv_has ls 6 [(4, .int (nI (k5 + 1))), (3, .int (ck_bi (ck_best V a0 a1 (k5 + 1)))), (5, .int 0), (0, .ref (ad 30)), (1, .int a0), (2, .int a1)] := by rw [e9, hob]; exact hl
                exact ih5 ls (lv_sub hl [0, 1, 3, 4, 5] rfl) (trivial)
              · skip
                refine lv_iconst (v := 1) hx hb dX5_rate_92 (by decide) ?_
                refine lv_goto (tgt := 97) hx hb dX5_rate_93 (by decide) ?_
                refine lv_istore (lv' := [(5, .int 1), (4, .int (nI k5)), (3, .int (nI b)), (0, .ref (ad 30)), (1, .int a0), (2, .int a1)]) hx hb dX5_rate_97 hl (by decide) rfl (fun ls hl => ?_)
                refine lv_iload hx hb dX5_rate_99 (lv_at hl 0 rfl) ?_
                refine lv_if_eq (tgt := 109) hx hb dX5_rate_101 (by decide) (fun c_101 => absurd c_101 (by decide)) (fun _ => ?_)
                refine lv_iload hx hb dX5_rate_104 (lv_at hl 1 rfl) ?_
                refine lv_goto (tgt := 110) hx hb dX5_rate_106 (by decide) ?_
                refine lv_istore_n (lv' := [(3, .int (nI k5)), (5, .int 1), (4, .int (nI k5)), (0, .ref (ad 30)), (1, .int a0), (2, .int a1)]) hx hb dX5_rate_110 rfl hl (by decide) rfl (fun ls hl => ?_)
                refine lv_iinc (v := nI (k5 + 1)) (lv' := [(4, .int (nI (k5 + 1))), (3, .int (nI k5)), (5, .int 1), (0, .ref (ad 30)), (1, .int a0), (2, .int a1)]) hx hb dX5_rate_111 hl (k := 2) rfl (nI_1 k5) (by decide) rfl (fun ls hl => ?_)
                refine lv_goto (tgt := 5) hx hb dX5_rate_114 (by decide) ?_
                have e9 : ck_best V a0 a1 (k5 + 1) = _ := ck_best_yes2 (Int32.not_lt.mp c_36) h_22 (by rw [hob]; exact decide_eq_true (Or.inr ⟨c_73.symm, Int32.not_lt.mp c_89⟩))
                have hl : lv_has ls 6 [(4, .int (nI (k5 + 1))), (3, .int (ck_bi (ck_best V a0 a1 (k5 + 1)))), (5, .int 1), (0, .ref (ad 30)), (1, .int a0), (2, .int a1)] := by rw [e9]; exact hl
                exact ih5 ls (lv_sub hl [0, 1, 3, 4, 5] rfl) (trivial)
    · skip
      refine lv_if_eq (tgt := 111) hx hb dX5_rate_25 (by decide) (fun _ => ?_) (fun c_25 => absurd (by decide) c_25)
      refine lv_iinc (v := nI (k5 + 1)) (lv' := [(4, .int (nI (k5 + 1))), (3, .int (ck_bi (ck_best V a0 a1 k5))), (0, .ref (ad 30)), (1, .int a0), (2, .int a1)]) hx hb dX5_rate_111 hl (k := 0) rfl (nI_1 k5) (by decide) rfl (fun ls hl => ?_)
      refine lv_goto (tgt := 5) hx hb dX5_rate_114 (by decide) ?_
      have e9 : ck_best V a0 a1 (k5 + 1) = _ := ck_best_no2 (fun z => h_22 z.2.1)
      have hl : lv_has ls 6 [(4, .int (nI (k5 + 1))), (3, .int (ck_bi (ck_best V a0 a1 (k5 + 1)))), (0, .ref (ad 30)), (1, .int a0), (2, .int a1)] := by rw [e9]; exact hl
      exact ih5 ls (lv_sub hl [0, 1, 2, 3, 4] rfl) (trivial)
theorem ck_up60 (x : Int32) : ck_up x 60 = (x + 59) / 60 := by
  unfold ck_up; rw [if_neg (by decide)]
  rw [Int32.sub_eq_add_neg, Int32.add_assoc]; rfl
theorem ck_up1 {a u : Int32} (h : 1 ≤ u) : ck_up a u = (a + u - 1) / u := by unfold ck_up; rw [if_neg (Int32.not_lt.mpr h)]
theorem ck_st0 {u : Int32} (h : 1 ≤ u) : ¬ u = 0 := by intro e; subst e; exact absurd h (by decide)
set_option maxHeartbeats 4000000 in
set_option maxRecDepth 100000 in
theorem ct_X5_chargeOf (l : Launch) (G : ck_G) (H : Heap) (ad : Nat → Nat) (N : Nat → Prop) (F : Nat → va_E) (hW : ck_W G ad N F H) (V : Nat → Nat → Int32) (L : Nat → Nat → Int64) (nc nr : Nat) (t : Int32) (hM : ck_M G ad V L nc nr t N F) (k : Nat) (hk : k < nc) (hp7 : ∀ k, k < nr → 0 ≤ (V 7 k).toInt) (h0 : ck_rg 0 (V 0 k) 99999999) (hst : ∀ k, k < nr → 1 ≤ V 10 k) : Met l yX5_chargeOf wsX5_chargeOf ({ frames := 2, cells := 0, slots := 0, locals := 47 }) (ck_P G H [.ref (ad 30), .int (nI k)]) (vp_Si (fun r => r = ck_now V nr k)) 0 0 (fun _ => False) := by
  refine Met.ofW (cc := cX5_chargeOf) (maxL := 5) (ret := (some .int)) (by decide) rfl ?_
  intro p e s m args below meth c s₁ B hml hv
  obtain ⟨rfl, hH, hKK⟩ := hv
  subst hH
  have hx := B.exec
  have hb := B.bytes
  have hr := B.returns
  have hts := atoms_spec (ws := wsX5_chargeOf) B.pre
  have hown : s.vm.findClass RX5 = some m.cls := findClass_of_methodNamed B.named
  have hlocks := B.notSynchronized
  have hKK0 := hKK
  have hK := hKK.1.1
  have hinX5 : ∀ w ∈ u_ws RX5 TX5 26, w ∈ wsX5_chargeOf := by decide +kernel
  have hl := lv_entry ([.ref (ad 30), .int (nI k)]) (n := 5) (Nat.le_of_ble_eq_true rfl)
  rw [lg_entry_eq]
  generalize (lg_sl ([.ref (ad 30), .int (nI k)]) ++ List.replicate (5 - (lg_sl ([.ref (ad 30), .int (nI k)])).length) Slot.unset).toArray = ls at hl ⊢
  have hl : lv_has ls 5 [(0, .ref (ad 30)), (1, .int (nI k))] := hl
  refine lv_aload_n hx hb dX5_chargeOf_0 rfl (lv_at hl 0 rfl) ?_
  refine lv_aload_n hx hb dX5_chargeOf_1 rfl (lv_at hl 0 rfl) ?_
  refine ck_get (v := .ref (ad 36)) hx hb hts hinX5 hown hK hW (hM.n 30 (by decide) (by decide)) hM.f30 rfl 7 (by decide) (hts _ (List.mem_of_getElem? (i := 1) rfl)) rfl rfl dX5_chargeOf_2 ?_
  refine lv_iload_n hx hb dX5_chargeOf_5 rfl (lv_at hl 1 rfl) ?_
  refine ck_iald hx hb hK hW (hM.n 36 (by decide) (by decide)) hM.f36 k (rfl) (by have := hM.nc; have := hM.nr; omega) (by decide) dX5_chargeOf_6 ?_
  refine lv_aload_n hx hb dX5_chargeOf_7 rfl (lv_at hl 0 rfl) ?_
  refine ck_get (v := .ref (ad 37)) hx hb hts hinX5 hown hK hW (hM.n 30 (by decide) (by decide)) hM.f30 rfl 8 (by decide) (hts _ (List.mem_of_getElem? (i := 2) rfl)) rfl rfl dX5_chargeOf_8 ?_
  refine lv_iload_n hx hb dX5_chargeOf_11 rfl (lv_at hl 1 rfl) ?_
  refine ck_iald hx hb hK hW (hM.n 37 (by decide) (by decide)) hM.f37 k (rfl) (by have := hM.nc; have := hM.nr; omega) (by decide) dX5_chargeOf_12 ?_
  refine lv_sipush (v := 1000) hx hb dX5_chargeOf_13 (by decide) ?_
  refine lv_idiv hx hb dX5_chargeOf_16 (by decide) ?_
  refine ck_cVi (As := [.int (((V 0)) k), .int (((((V 1)) k)) / 1000)]) (rest := []) ⟨hx, hb, hml, hown, hts⟩ hKK (ct_X5_rate l G s.heap ad N F hW V L nc nr t hM ((((V 0)) k)) ((((((V 1)) k)) / 1000)) hp7 h0) (cwV 2 hts gX5_chargeOf_X5_rate rfl rfl rfl (by decide +kernel) ⟨Nat.le_of_ble_eq_true rfl, Nat.le_of_ble_eq_true rfl⟩) (ck_recv hK hW (hM.n 30 (by decide) (by decide)) hM.f30 rfl) rfl hl rfl (Nat.le_of_ble_eq_true rfl) dX5_chargeOf_17 ⟨Nat.le_of_ble_eq_true rfl, Nat.le_of_ble_eq_true rfl⟩ (fun r_17 h_17 => ?_)
  subst h_17
  obtain ⟨ob, hob⟩ : ∃ ob, ck_best V (V 0 k) (V 1 k / 1000) nr = ob := ⟨_, rfl⟩
  rw [hob]
  rcases ob with _ | b
  · skip
    refine lv_istore_n (lv' := [(2, .int (-1)), (0, .ref (ad 30)), (1, .int (nI k))]) hx hb dX5_chargeOf_20 rfl hl (by decide) rfl (fun ls hl => ?_)
    refine lv_iload_n hx hb dX5_chargeOf_21 rfl (lv_at hl 0 rfl) ?_
    refine lv_iconst (v := (-1)) hx hb dX5_chargeOf_22 (by decide) ?_
    refine lv_icmp_ne (tgt := 28) hx hb dX5_chargeOf_23 (by decide) (fun c_23 => absurd (by decide) c_23) (fun _ => ?_)
    refine lv_iconst (v := (-1)) hx hb dX5_chargeOf_26 (by decide) ?_
    exact W.iret (v := (-1)) hx hb hr (fun t ht hW9 => ⟨_, rfl, (by simp only [ck_now, hob]), ht⟩) (fun _ h => nomatch h) dX5_chargeOf_27
  · skip
    have hbn : b < nr := ck_best_lt hob
    refine lv_istore_n (lv' := [(2, .int (nI b)), (0, .ref (ad 30)), (1, .int (nI k))]) hx hb dX5_chargeOf_20 rfl hl (by decide) rfl (fun ls hl => ?_)
    refine lv_iload_n hx hb dX5_chargeOf_21 rfl (lv_at hl 0 rfl) ?_
    refine lv_iconst (v := (-1)) hx hb dX5_chargeOf_22 (by decide) ?_
    refine lv_icmp_ne (tgt := 28) hx hb dX5_chargeOf_23 (by decide) (fun _ => ?_) (fun c_23 => absurd c_23 (ck_m1 (by have := hM.nr; omega)))
    refine lv_aload_n hx hb dX5_chargeOf_28 rfl (lv_at hl 1 rfl) ?_
    refine ck_get (v := .ref (ad 39)) hx hb hts hinX5 hown hK hW (hM.n 30 (by decide) (by decide)) hM.f30 rfl 10 (by decide) (hts _ (List.mem_of_getElem? (i := 3) rfl)) rfl rfl dX5_chargeOf_29 ?_
    refine lv_iload_n hx hb dX5_chargeOf_32 rfl (lv_at hl 2 rfl) ?_
    refine ck_iald hx hb hK hW (hM.n 39 (by decide) (by decide)) hM.f39 k (rfl) (by have := hM.nc; have := hM.nr; omega) (by decide) dX5_chargeOf_33 ?_
    refine lv_aload_n hx hb dX5_chargeOf_34 rfl (lv_at hl 1 rfl) ?_
    refine ck_get (v := .ref (ad 46)) hx hb hts hinX5 hown hK hW (hM.n 30 (by decide) (by decide)) hM.f30 rfl 19 (by decide) (hts _ (List.mem_of_getElem? (i := 4) rfl)) rfl rfl dX5_chargeOf_35 ?_
    refine lv_iload_n hx hb dX5_chargeOf_38 rfl (lv_at hl 0 rfl) ?_
    refine ck_iald hx hb hK hW (hM.n 46 (by decide) (by decide)) hM.f46 b (rfl) (by have := hM.nc; have := hM.nr; omega) (by decide) dX5_chargeOf_39 ?_
    refine lv_iadd hx hb dX5_chargeOf_40 ?_
    refine lv_iconst (v := 1) hx hb dX5_chargeOf_41 (by decide) ?_
    refine lv_isub hx hb dX5_chargeOf_42 ?_
    refine lv_aload_n hx hb dX5_chargeOf_43 rfl (lv_at hl 1 rfl) ?_
    refine ck_get (v := .ref (ad 46)) hx hb hts hinX5 hown hK hW (hM.n 30 (by decide) (by decide)) hM.f30 rfl 19 (by decide) (hts _ (List.mem_of_getElem? (i := 4) rfl)) rfl rfl dX5_chargeOf_44 ?_
    refine lv_iload_n hx hb dX5_chargeOf_47 rfl (lv_at hl 0 rfl) ?_
    refine ck_iald hx hb hK hW (hM.n 46 (by decide) (by decide)) hM.f46 b (rfl) (by have := hM.nc; have := hM.nr; omega) (by decide) dX5_chargeOf_48 ?_
    refine lv_idiv hx hb dX5_chargeOf_49 (ck_st0 (hst b hbn)) ?_
    refine lv_aload_n hx hb dX5_chargeOf_50 rfl (lv_at hl 1 rfl) ?_
    refine ck_get (v := .ref (ad 46)) hx hb hts hinX5 hown hK hW (hM.n 30 (by decide) (by decide)) hM.f30 rfl 19 (by decide) (hts _ (List.mem_of_getElem? (i := 4) rfl)) rfl rfl dX5_chargeOf_51 ?_
    refine lv_iload_n hx hb dX5_chargeOf_54 rfl (lv_at hl 0 rfl) ?_
    refine ck_iald hx hb hK hW (hM.n 46 (by decide) (by decide)) hM.f46 b (rfl) (by have := hM.nc; have := hM.nr; omega) (by decide) dX5_chargeOf_55 ?_
    refine lv_imul hx hb dX5_chargeOf_56 ?_
    refine lv_istore_n (lv' := [(3, .int (((((((((((V 4)) k)) + ((((V 10)) b)))) - 1)) / ((((V 10)) b)))) * ((((V 10)) b)))), (2, .int (nI b)), (0, .ref (ad 30)), (1, .int (nI k))]) hx hb dX5_chargeOf_57 rfl hl (by decide) rfl (fun ls hl => ?_)
    refine lv_iload_n hx hb dX5_chargeOf_58 rfl (lv_at hl 0 rfl) ?_
    refine lv_aload_n hx hb dX5_chargeOf_59 rfl (lv_at hl 2 rfl) ?_
    refine ck_get (v := .ref (ad 47)) hx hb hts hinX5 hown hK hW (hM.n 30 (by decide) (by decide)) hM.f30 rfl 20 (by decide) (hts _ (List.mem_of_getElem? (i := 5) rfl)) rfl rfl dX5_chargeOf_60 ?_
    refine lv_iload_n hx hb dX5_chargeOf_63 rfl (lv_at hl 1 rfl) ?_
    refine ck_iald hx hb hK hW (hM.n 47 (by decide) (by decide)) hM.f47 b (rfl) (by have := hM.nc; have := hM.nr; omega) (by decide) dX5_chargeOf_64 ?_
    refine lv_icmp_ge (tgt := 77) hx hb dX5_chargeOf_65 (by decide) (fun c_65 => ?_) (fun c_65 => ?_)
    · skip
      refine lv_iload_n hx hb dX5_chargeOf_77 rfl (lv_at hl 0 rfl) ?_
      refine lv_istore (lv' := [(4, .int (((((((((((V 4)) k)) + ((((V 10)) b)))) - 1)) / ((((V 10)) b)))) * ((((V 10)) b)))), (3, .int (((((((((((V 4)) k)) + ((((V 10)) b)))) - 1)) / ((((V 10)) b)))) * ((((V 10)) b)))), (2, .int (nI b)), (0, .ref (ad 30)), (1, .int (nI k))]) hx hb dX5_chargeOf_78 hl (by decide) rfl (fun ls hl => ?_)
      refine lv_aload_n hx hb dX5_chargeOf_80 rfl (lv_at hl 3 rfl) ?_
      refine ck_get (v := .ref (ad 48)) hx hb hts hinX5 hown hK hW (hM.n 30 (by decide) (by decide)) hM.f30 rfl 21 (by decide) (hts _ (List.mem_of_getElem? (i := 6) rfl)) rfl rfl dX5_chargeOf_81 ?_
      refine lv_iload_n hx hb dX5_chargeOf_84 rfl (lv_at hl 2 rfl) ?_
      refine ck_iald hx hb hK hW (hM.n 48 (by decide) (by decide)) hM.f48 b (rfl) (by have := hM.nc; have := hM.nr; omega) (by decide) dX5_chargeOf_85 ?_
      refine lv_aload_n hx hb dX5_chargeOf_86 rfl (lv_at hl 3 rfl) ?_
      refine ck_get (v := .ref (ad 45)) hx hb hts hinX5 hown hK hW (hM.n 30 (by decide) (by decide)) hM.f30 rfl 18 (by decide) (hts _ (List.mem_of_getElem? (i := 7) rfl)) rfl rfl dX5_chargeOf_87 ?_
      refine lv_iload_n hx hb dX5_chargeOf_90 rfl (lv_at hl 2 rfl) ?_
      refine ck_iald hx hb hK hW (hM.n 45 (by decide) (by decide)) hM.f45 b (rfl) (by have := hM.nc; have := hM.nr; omega) (by decide) dX5_chargeOf_91 ?_
      refine lv_iload hx hb dX5_chargeOf_92 (lv_at hl 0 rfl) ?_
      refine lv_imul hx hb dX5_chargeOf_94 ?_
      refine lv_bipush (v := 59) hx hb dX5_chargeOf_95 (by decide) ?_
      refine lv_iadd hx hb dX5_chargeOf_97 ?_
      refine lv_bipush (v := 60) hx hb dX5_chargeOf_98 (by decide) ?_
      refine lv_idiv hx hb dX5_chargeOf_100 (by decide) ?_
      refine lv_iadd hx hb dX5_chargeOf_101 ?_
      exact W.iret (v := (((((V 12)) b)) + ((((((((((V 9)) b)) * ((((((((((((V 4)) k)) + ((((V 10)) b)))) - 1)) / ((((V 10)) b)))) * ((((V 10)) b)))))) + 59)) / 60)))) hx hb hr (fun t ht hW9 => ⟨_, rfl, (by simp only [ck_now, hob, ck_chg, ck_up60, ck_up1 (hst b hbn), ck_max]; rw [if_neg (Int32.not_lt.mpr c_65)]), ht⟩) (fun _ h => nomatch h) dX5_chargeOf_102
    · skip
      refine lv_aload_n hx hb dX5_chargeOf_68 rfl (lv_at hl 2 rfl) ?_
      refine ck_get (v := .ref (ad 47)) hx hb hts hinX5 hown hK hW (hM.n 30 (by decide) (by decide)) hM.f30 rfl 20 (by decide) (hts _ (List.mem_of_getElem? (i := 5) rfl)) rfl rfl dX5_chargeOf_69 ?_
      refine lv_iload_n hx hb dX5_chargeOf_72 rfl (lv_at hl 1 rfl) ?_
      refine ck_iald hx hb hK hW (hM.n 47 (by decide) (by decide)) hM.f47 b (rfl) (by have := hM.nc; have := hM.nr; omega) (by decide) dX5_chargeOf_73 ?_
      refine lv_goto (tgt := 78) hx hb dX5_chargeOf_74 (by decide) ?_
      refine lv_istore (lv' := [(4, .int (((V 11)) b)), (3, .int (((((((((((V 4)) k)) + ((((V 10)) b)))) - 1)) / ((((V 10)) b)))) * ((((V 10)) b)))), (2, .int (nI b)), (0, .ref (ad 30)), (1, .int (nI k))]) hx hb dX5_chargeOf_78 hl (by decide) rfl (fun ls hl => ?_)
      refine lv_aload_n hx hb dX5_chargeOf_80 rfl (lv_at hl 3 rfl) ?_
      refine ck_get (v := .ref (ad 48)) hx hb hts hinX5 hown hK hW (hM.n 30 (by decide) (by decide)) hM.f30 rfl 21 (by decide) (hts _ (List.mem_of_getElem? (i := 6) rfl)) rfl rfl dX5_chargeOf_81 ?_
      refine lv_iload_n hx hb dX5_chargeOf_84 rfl (lv_at hl 2 rfl) ?_
      refine ck_iald hx hb hK hW (hM.n 48 (by decide) (by decide)) hM.f48 b (rfl) (by have := hM.nc; have := hM.nr; omega) (by decide) dX5_chargeOf_85 ?_
      refine lv_aload_n hx hb dX5_chargeOf_86 rfl (lv_at hl 3 rfl) ?_
      refine ck_get (v := .ref (ad 45)) hx hb hts hinX5 hown hK hW (hM.n 30 (by decide) (by decide)) hM.f30 rfl 18 (by decide) (hts _ (List.mem_of_getElem? (i := 7) rfl)) rfl rfl dX5_chargeOf_87 ?_
      refine lv_iload_n hx hb dX5_chargeOf_90 rfl (lv_at hl 2 rfl) ?_
      refine ck_iald hx hb hK hW (hM.n 45 (by decide) (by decide)) hM.f45 b (rfl) (by have := hM.nc; have := hM.nr; omega) (by decide) dX5_chargeOf_91 ?_
      refine lv_iload hx hb dX5_chargeOf_92 (lv_at hl 0 rfl) ?_
      refine lv_imul hx hb dX5_chargeOf_94 ?_
      refine lv_bipush (v := 59) hx hb dX5_chargeOf_95 (by decide) ?_
      refine lv_iadd hx hb dX5_chargeOf_97 ?_
      refine lv_bipush (v := 60) hx hb dX5_chargeOf_98 (by decide) ?_
      refine lv_idiv hx hb dX5_chargeOf_100 (by decide) ?_
      refine lv_iadd hx hb dX5_chargeOf_101 ?_
      exact W.iret (v := (((((V 12)) b)) + ((((((((((V 9)) b)) * ((((V 11)) b)))) + 59)) / 60)))) hx hb hr (fun t ht hW9 => ⟨_, rfl, (by simp only [ck_now, hob, ck_chg, ck_up60, ck_up1 (hst b hbn), ck_max]; rw [if_pos (Int32.not_le.mp c_65)]), ht⟩) (fun _ h => nomatch h) dX5_chargeOf_102
set_option maxHeartbeats 4000000 in
set_option maxRecDepth 100000 in
theorem ct_X5_differs (l : Launch) (G : ck_G) (H : Heap) (ad : Nat → Nat) (N : Nat → Prop) (F : Nat → va_E) (hW : ck_W G ad N F H) (V : Nat → Nat → Int32) (L : Nat → Nat → Int64) (nc nr : Nat) (t : Int32) (hM : ck_M G ad V L nc nr t N F) (a0 : Int32) (h0 : 0 ≤ a0.toInt) (hn0 : ∀ k, k < nc → ck_rg 0 (V 0 k) 99999999) : Met l yX5_differs wsX5_differs ({ frames := 1, cells := 0, slots := 0, locals := 22 }) (ck_P G H [.ref (ad 30), .int a0]) (vp_Si (fun r => r = ck_df V a0 nc)) 0 0 (fun _ => False) := by
  refine Met.ofW (cc := cX5_differs) (maxL := 4) (ret := (some .int)) (by decide) rfl ?_
  intro p e s m args below meth c s₁ B hml hv
  obtain ⟨rfl, hH, hKK⟩ := hv
  subst hH
  have hx := B.exec
  have hb := B.bytes
  have hr := B.returns
  have hts := atoms_spec (ws := wsX5_differs) B.pre
  have hown : s.vm.findClass RX5 = some m.cls := findClass_of_methodNamed B.named
  have hlocks := B.notSynchronized
  have hKK0 := hKK
  have hK := hKK.1.1
  have hinX5 : ∀ w ∈ u_ws RX5 TX5 26, w ∈ wsX5_differs := by decide +kernel
  have hl := lv_entry ([.ref (ad 30), .int a0]) (n := 4) (Nat.le_of_ble_eq_true rfl)
  rw [lg_entry_eq]
  generalize (lg_sl ([.ref (ad 30), .int a0]) ++ List.replicate (4 - (lg_sl ([.ref (ad 30), .int a0])).length) Slot.unset).toArray = ls at hl ⊢
  have hl : lv_has ls 4 [(0, .ref (ad 30)), (1, .int a0)] := hl
  refine lv_iconst (v := 0) hx hb dX5_differs_0 (by decide) ?_
  refine lv_istore_n (lv' := [(2, .int 0), (0, .ref (ad 30)), (1, .int a0)]) hx hb dX5_differs_1 rfl hl (by decide) rfl (fun ls hl => ?_)
  refine lv_iconst (v := 0) hx hb dX5_differs_2 (by decide) ?_
  refine lv_istore_n (lv' := [(3, .int 0), (2, .int 0), (0, .ref (ad 30)), (1, .int a0)]) hx hb dX5_differs_3 rfl hl (by decide) rfl (fun ls hl => ?_)
  refine ck_loop (P := fun ls => W p l e _ s m _ below meth c _ _ _ _ _ (F0 m _ ls _)) nc (fun k => [(3, .int (nI k)), (2, .int (ck_df V a0 k)), (0, .ref (ad 30)), (1, .int a0)]) (fun k => True) (lv_sub hl [0, 1, 2, 3] rfl) (trivial) ?_ ?_
  · intro ls hl hI4
    have hl : lv_has ls 4 [(3, .int (nI nc)), (2, .int (ck_df V a0 nc)), (0, .ref (ad 30)), (1, .int a0)] := hl
    refine lv_iload_n hx hb dX5_differs_4 rfl (lv_at hl 0 rfl) ?_
    refine lv_aload_n hx hb dX5_differs_5 rfl (lv_at hl 2 rfl) ?_
    refine ck_get (v := .int (nI nc)) hx hb hts hinX5 hown hK hW (hM.n 30 (by decide) (by decide)) hM.f30 rfl 6 (by decide) (hts _ (List.mem_of_getElem? (i := 1) rfl)) rfl rfl dX5_differs_6 ?_
    refine lv_icmp_ge (tgt := 50) hx hb dX5_differs_9 (by decide) (fun _ => ?_) (fun c_9 => absurd (Int32.le_refl _) c_9)
    refine lv_iload_n hx hb dX5_differs_50 rfl (lv_at hl 1 rfl) ?_
    exact W.iret (v := (ck_df V a0 nc)) hx hb hr (fun t ht hW9 => ⟨_, rfl, rfl, ht⟩) (fun _ h => nomatch h) dX5_differs_51
  · intro k4 hk4 hI4 ih4 ls hl
    have hl : lv_has ls 4 [(3, .int (nI k4)), (2, .int (ck_df V a0 k4)), (0, .ref (ad 30)), (1, .int a0)] := hl
    refine lv_iload_n hx hb dX5_differs_4 rfl (lv_at hl 0 rfl) ?_
    refine lv_aload_n hx hb dX5_differs_5 rfl (lv_at hl 2 rfl) ?_
    refine ck_get (v := .int (nI nc)) hx hb hts hinX5 hown hK hW (hM.n 30 (by decide) (by decide)) hM.f30 rfl 6 (by decide) (hts _ (List.mem_of_getElem? (i := 1) rfl)) rfl rfl dX5_differs_6 ?_
    refine lv_icmp_ge (tgt := 50) hx hb dX5_differs_9 (by decide) (fun c_9 => absurd c_9 (nI_ge hk4 (by have := hM.nc; omega))) (fun _ => ?_)
    refine lv_iload_n hx hb dX5_differs_12 rfl (lv_at hl 1 rfl) ?_
    refine lv_iload_n hx hb dX5_differs_13 rfl (lv_at hl 3 rfl) ?_
    refine lv_aload_n hx hb dX5_differs_14 rfl (lv_at hl 2 rfl) ?_
    refine ck_get (v := .ref (ad 36)) hx hb hts hinX5 hown hK hW (hM.n 30 (by decide) (by decide)) hM.f30 rfl 7 (by decide) (hts _ (List.mem_of_getElem? (i := 2) rfl)) rfl rfl dX5_differs_15 ?_
    refine lv_iload_n hx hb dX5_differs_18 rfl (lv_at hl 0 rfl) ?_
    refine ck_iald hx hb hK hW (hM.n 36 (by decide) (by decide)) hM.f36 k4 (rfl) (by have := hM.nc; omega) (by decide) dX5_differs_19 ?_
    refine ck_cSi (As := [.int a0, .int (((V 0)) k4)]) (rest := [.int (ck_df V a0 k4)]) ⟨hx, hb, hml, hown, hts⟩ hKK (ct_X5_fits l G s.heap a0 ((((V 0)) k4)) h0 (hn0 k4 hk4).1 (hn0 k4 hk4).2) (va_cwS 2 hts gX5_differs_X5_fits rfl rfl rfl (by decide +kernel) ⟨Nat.le_of_ble_eq_true rfl, Nat.le_of_ble_eq_true rfl⟩) rfl hl rfl (Nat.le_of_ble_eq_true rfl) dX5_differs_20 ⟨Nat.le_of_ble_eq_true rfl, Nat.le_of_ble_eq_true rfl⟩ (fun r_20 h_20 => ?_)
    rcases h_20 with ⟨h_20, rfl⟩ | ⟨h_20, rfl⟩
    · skip
      refine lv_if_eq (tgt := 41) hx hb dX5_differs_23 (by decide) (fun c_23 => absurd c_23 (by decide)) (fun _ => ?_)
      refine lv_aload_n hx hb dX5_differs_26 rfl (lv_at hl 2 rfl) ?_
      refine ck_get (v := .ref (ad 42)) hx hb hts hinX5 hown hK hW (hM.n 30 (by decide) (by decide)) hM.f30 rfl 13 (by decide) (hts _ (List.mem_of_getElem? (i := 3) rfl)) rfl rfl dX5_differs_27 ?_
      refine lv_iload_n hx hb dX5_differs_30 rfl (lv_at hl 0 rfl) ?_
      refine ck_iald hx hb hK hW (hM.n 42 (by decide) (by decide)) hM.f42 k4 (rfl) (by have := hM.nc; omega) (by decide) dX5_differs_31 ?_
      refine lv_aload_n hx hb dX5_differs_32 rfl (lv_at hl 2 rfl) ?_
      refine lv_iload_n hx hb dX5_differs_33 rfl (lv_at hl 0 rfl) ?_
      refine ck_cVi (As := [.int (nI k4)]) (rest := [.int (((V 6)) k4), .int (ck_df V a0 k4)]) ⟨hx, hb, hml, hown, hts⟩ hKK (ct_X5_bookedOf l G s.heap ad N F hW V L nc nr t hM k4 (by have := hM.nc; omega)) (cwV 1 hts gX5_differs_X5_bookedOf rfl rfl rfl (by decide +kernel) ⟨Nat.le_of_ble_eq_true rfl, Nat.le_of_ble_eq_true rfl⟩) (ck_recv hK hW (hM.n 30 (by decide) (by decide)) hM.f30 rfl) rfl hl rfl (Nat.le_of_ble_eq_true rfl) dX5_differs_34 ⟨Nat.le_of_ble_eq_true rfl, Nat.le_of_ble_eq_true rfl⟩ (fun r_34 h_34 => ?_)
      subst h_34
      refine lv_isub hx hb dX5_differs_37 ?_
      refine lv_goto (tgt := 42) hx hb dX5_differs_38 (by decide) ?_
      refine lv_iadd hx hb dX5_differs_42 ?_
      refine lv_istore_n (lv' := [(2, .int (((ck_df V a0 k4)) + ((((((V 6)) k4)) - ((ck_bk (V 5 k4))))))), (3, .int (nI k4)), (0, .ref (ad 30)), (1, .int a0)]) hx hb dX5_differs_43 rfl hl (by decide) rfl (fun ls hl => ?_)
      refine lv_iinc (v := nI (k4 + 1)) (lv' := [(3, .int (nI (k4 + 1))), (2, .int (((ck_df V a0 k4)) + ((((((V 6)) k4)) - ((ck_bk (V 5 k4))))))), (0, .ref (ad 30)), (1, .int a0)]) hx hb dX5_differs_44 hl (k := 1) rfl (nI_1 k4) (by decide) rfl (fun ls hl => ?_)
      refine lv_goto (tgt := 4) hx hb dX5_differs_47 (by decide) ?_
      have e9 : ck_df V a0 (k4 + 1) = ck_df V a0 k4 + (V 6 k4 - ck_bk (V 5 k4)) := by simp only [ck_df]; rw [if_pos h_20]
      have hl : lv_has ls 4 [(3, .int (nI (k4 + 1))), (2, .int (ck_df V a0 (k4 + 1))), (0, .ref (ad 30)), (1, .int a0)] := by rw [e9]; exact hl
      exact ih4 ls (lv_sub hl [0, 1, 2, 3] rfl) (trivial)
    · skip
      refine lv_if_eq (tgt := 41) hx hb dX5_differs_23 (by decide) (fun _ => ?_) (fun c_23 => absurd (by decide) c_23)
      refine lv_iconst (v := 0) hx hb dX5_differs_41 (by decide) ?_
      refine lv_iadd hx hb dX5_differs_42 ?_
      refine lv_istore_n (lv' := [(2, .int (((ck_df V a0 k4)) + 0)), (3, .int (nI k4)), (0, .ref (ad 30)), (1, .int a0)]) hx hb dX5_differs_43 rfl hl (by decide) rfl (fun ls hl => ?_)
      refine lv_iinc (v := nI (k4 + 1)) (lv' := [(3, .int (nI (k4 + 1))), (2, .int (((ck_df V a0 k4)) + 0)), (0, .ref (ad 30)), (1, .int a0)]) hx hb dX5_differs_44 hl (k := 1) rfl (nI_1 k4) (by decide) rfl (fun ls hl => ?_)
      refine lv_goto (tgt := 4) hx hb dX5_differs_47 (by decide) ?_
      have e9 : ck_df V a0 (k4 + 1) = ck_df V a0 k4 + 0 := by simp only [ck_df]; rw [if_neg h_20, Int32.add_zero]
      have hl : lv_has ls 4 [(3, .int (nI (k4 + 1))), (2, .int (ck_df V a0 (k4 + 1))), (0, .ref (ad 30)), (1, .int a0)] := by rw [e9]; exact hl
      exact ih4 ls (lv_sub hl [0, 1, 2, 3] rfl) (trivial)
def ck_ofc (g : Nat → Int32) (k : Nat) : Option Nat → Bool
  | none => true
  | some b => decide (g b < g k)
def ck_of (g : Nat → Int32) (x : Int32) : Nat → Option Nat
  | 0 => none
  | k + 1 => if ck_fit (g k) x = true ∧ ck_ofc g k (ck_of g x k) = true then some k else ck_of g x k
theorem ck_of_lt {g : Nat → Int32} {x : Int32} : ∀ {n b : Nat}, ck_of g x n = some b → b < n
  | 0, b, h => by simp [ck_of] at h
  | n + 1, b, h => by
    by_cases c : ck_fit (g n) x = true ∧ ck_ofc g n (ck_of g x n) = true
    · simp only [ck_of, if_pos c] at h; cases h; omega
    · simp only [ck_of, if_neg c] at h; have := ck_of_lt h; omega
theorem ck_of_yes {g : Nat → Int32} {x : Int32} {k : Nat} (h : ck_fit (g k) x = true) (h2 : ck_ofc g k (ck_of g x k) = true) : ck_of g x (k + 1) = some k := by simp only [ck_of]; rw [if_pos ⟨h, h2⟩]
theorem ck_of_no {g : Nat → Int32} {x : Int32} {k : Nat} (h : ¬ (ck_fit (g k) x = true ∧ ck_ofc g k (ck_of g x k) = true)) : ck_of g x (k + 1) = ck_of g x k := by simp only [ck_of]; rw [if_neg h]
/-- the reference's price of carrier i for x, of m offers -/
def ck_mp (V : Nat → Nat → Int32) (x : Int32) (i m : Nat) : Int32 := match ck_of (fun k => V 29 (10 * i + k)) x m with
  | none => -1
  | some b => V 30 (10 * i + b)
def ck_bo (i : Nat) : Option Nat → Int32
  | none => -1
  | some b => nI (10 * i + b)
theorem ck_10 (i : Nat) : (10 : Int32) * nI i = nI (10 * i) := pk_mul 10 i
set_option maxHeartbeats 4000000 in
set_option maxRecDepth 100000 in
theorem ct_X5_offerOf (l : Launch) (G : ck_G) (H : Heap) (ad : Nat → Nat) (N : Nat → Prop) (F : Nat → va_E) (hW : ck_W G ad N F H) (V : Nat → Nat → Int32) (L : Nat → Nat → Int64) (nc nr : Nat) (t : Int32) (hM : ck_M G ad V L nc nr t N F) (i : Nat) (hi : i < 4) (m0 : Nat) (hm : V 28 i = nI m0) (hm10 : m0 ≤ 10) (a1 : Int32) (hp29 : ∀ k, k < m0 → 0 ≤ (V 29 (10 * i + k)).toInt) (h0 : ck_rg 0 a1 99999999) : Met l yX5_offerOf wsX5_offerOf ({ frames := 1, cells := 0, slots := 0, locals := 22 }) (ck_P G H [.ref (ad 30), .int (nI i), .int a1]) (vp_Si (fun r => r = ck_mp V a1 i m0)) 0 0 (fun _ => False) := by
  refine Met.ofW (cc := cX5_offerOf) (maxL := 5) (ret := (some .int)) (by decide) rfl ?_
  intro p e s m args below meth c s₁ B hml hv
  obtain ⟨rfl, hH, hKK⟩ := hv
  subst hH
  have hx := B.exec
  have hb := B.bytes
  have hr := B.returns
  have hts := atoms_spec (ws := wsX5_offerOf) B.pre
  have hown : s.vm.findClass RX5 = some m.cls := findClass_of_methodNamed B.named
  have hlocks := B.notSynchronized
  have hKK0 := hKK
  have hK := hKK.1.1
  have hinX5 : ∀ w ∈ u_ws RX5 TX5 26, w ∈ wsX5_offerOf := by decide +kernel
  have hl := lv_entry ([.ref (ad 30), .int (nI i), .int a1]) (n := 5) (Nat.le_of_ble_eq_true rfl)
  rw [lg_entry_eq]
  generalize (lg_sl ([.ref (ad 30), .int (nI i), .int a1]) ++ List.replicate (5 - (lg_sl ([.ref (ad 30), .int (nI i), .int a1])).length) Slot.unset).toArray = ls at hl ⊢
  have hl : lv_has ls 5 [(0, .ref (ad 30)), (1, .int (nI i)), (2, .int a1)] := hl
  refine lv_iconst (v := (-1)) hx hb dX5_offerOf_0 (by decide) ?_
  refine lv_istore_n (lv' := [(3, .int (-1)), (0, .ref (ad 30)), (1, .int (nI i)), (2, .int a1)]) hx hb dX5_offerOf_1 rfl hl (by decide) rfl (fun ls hl => ?_)
  refine lv_bipush (v := 10) hx hb dX5_offerOf_2 (by decide) ?_
  refine lv_iload_n hx hb dX5_offerOf_4 rfl (lv_at hl 2 rfl) ?_
  refine lv_imul hx hb dX5_offerOf_5 ?_
  rw [ck_10]
  refine lv_istore (lv' := [(4, .int (nI (10 * i))), (3, .int (-1)), (0, .ref (ad 30)), (1, .int (nI i)), (2, .int a1)]) hx hb dX5_offerOf_6 hl (by decide) rfl (fun ls hl => ?_)
  refine ck_loop (P := fun ls => W p l e _ s m _ below meth c _ _ _ _ _ (F0 m _ ls _)) m0 (fun k => [(4, .int (nI (10 * i + k))), (3, .int (ck_bo i (ck_of (fun k => V 29 (10 * i + k)) a1 k))), (0, .ref (ad 30)), (1, .int (nI i)), (2, .int a1)]) (fun k => True) (lv_sub hl [0, 1, 2, 3, 4] rfl) (trivial) ?_ ?_
  · intro ls hl hI8
    have hl : lv_has ls 5 [(4, .int (nI (10 * i + m0))), (3, .int (ck_bo i (ck_of (fun k => V 29 (10 * i + k)) a1 m0))), (0, .ref (ad 30)), (1, .int (nI i)), (2, .int a1)] := hl
    refine lv_iload hx hb dX5_offerOf_8 (lv_at hl 0 rfl) ?_
    refine lv_bipush (v := 10) hx hb dX5_offerOf_10 (by decide) ?_
    refine lv_iload_n hx hb dX5_offerOf_12 rfl (lv_at hl 3 rfl) ?_
    refine lv_imul hx hb dX5_offerOf_13 ?_
    refine lv_aload_n hx hb dX5_offerOf_14 rfl (lv_at hl 2 rfl) ?_
    refine ck_get (v := .ref (ad 49)) hx hb hts hinX5 hown hK hW (hM.n 30 (by decide) (by decide)) hM.f30 rfl 22 (by decide) (hts _ (List.mem_of_getElem? (i := 1) rfl)) rfl rfl dX5_offerOf_15 ?_
    refine lv_iload_n hx hb dX5_offerOf_18 rfl (lv_at hl 3 rfl) ?_
    refine ck_iald hx hb hK hW (hM.n 49 (by decide) (by decide)) hM.f49 i (rfl) (by omega) (by decide) dX5_offerOf_19 ?_
    refine lv_iadd hx hb dX5_offerOf_20 ?_
    rw [hm, ck_10, nI_add]
    refine lv_icmp_ge (tgt := 72) hx hb dX5_offerOf_21 (by decide) (fun _ => ?_) (fun c_21 => absurd (Int32.le_refl _) c_21)
    obtain ⟨ob, hob⟩ : ∃ ob, ck_of (fun k => V 29 (10 * i + k)) a1 m0 = ob := ⟨_, rfl⟩
    rw [hob] at hl
    rcases ob with _ | b
    · skip
      have hl : lv_has ls 5 [(4, .int (nI (10 * i + m0))), (3, .int (-1)), (0, .ref (ad 30)), (1, .int (nI i)), (2, .int a1)] := hl
      refine lv_iload_n hx hb dX5_offerOf_72 rfl (lv_at hl 1 rfl) ?_
      refine lv_iconst (v := (-1)) hx hb dX5_offerOf_73 (by decide) ?_
      refine lv_icmp_ne (tgt := 81) hx hb dX5_offerOf_74 (by decide) (fun c_74 => absurd (by decide) c_74) (fun _ => ?_)
      refine lv_iconst (v := (-1)) hx hb dX5_offerOf_77 (by decide) ?_
      refine lv_goto (tgt := 87) hx hb dX5_offerOf_78 (by decide) ?_
      exact W.iret (v := (-1)) hx hb hr (fun t ht hW9 => ⟨_, rfl, (by simp only [ck_mp, hob]), ht⟩) (fun _ h => nomatch h) dX5_offerOf_87
    · skip
      have hbk : b < m0 := ck_of_lt hob
      have hl : lv_has ls 5 [(4, .int (nI (10 * i + m0))), (3, .int (nI (10 * i + b))), (0, .ref (ad 30)), (1, .int (nI i)), (2, .int a1)] := hl
      refine lv_iload_n hx hb dX5_offerOf_72 rfl (lv_at hl 1 rfl) ?_
      refine lv_iconst (v := (-1)) hx hb dX5_offerOf_73 (by decide) ?_
      refine lv_icmp_ne (tgt := 81) hx hb dX5_offerOf_74 (by decide) (fun _ => ?_) (fun c_74 => absurd c_74 (ck_m1 (by omega)))
      refine lv_aload_n hx hb dX5_offerOf_81 rfl (lv_at hl 2 rfl) ?_
      refine ck_get (v := .ref (ad 51)) hx hb hts hinX5 hown hK hW (hM.n 30 (by decide) (by decide)) hM.f30 rfl 24 (by decide) (hts _ (List.mem_of_getElem? (i := 3) rfl)) rfl rfl dX5_offerOf_82 ?_
      refine lv_iload_n hx hb dX5_offerOf_85 rfl (lv_at hl 1 rfl) ?_
      refine ck_iald hx hb hK hW (hM.n 51 (by decide) (by decide)) hM.f51 (10 * i + b) (rfl) (by omega) (by decide) dX5_offerOf_86 ?_
      exact W.iret (v := (((V 30)) (10 * i + b))) hx hb hr (fun t ht hW9 => ⟨_, rfl, (by simp only [ck_mp, hob]), ht⟩) (fun _ h => nomatch h) dX5_offerOf_87
  · intro k8 hk8 hI8 ih8 ls hl
    have hl : lv_has ls 5 [(4, .int (nI (10 * i + k8))), (3, .int (ck_bo i (ck_of (fun k => V 29 (10 * i + k)) a1 k8))), (0, .ref (ad 30)), (1, .int (nI i)), (2, .int a1)] := hl
    refine lv_iload hx hb dX5_offerOf_8 (lv_at hl 0 rfl) ?_
    refine lv_bipush (v := 10) hx hb dX5_offerOf_10 (by decide) ?_
    refine lv_iload_n hx hb dX5_offerOf_12 rfl (lv_at hl 3 rfl) ?_
    refine lv_imul hx hb dX5_offerOf_13 ?_
    refine lv_aload_n hx hb dX5_offerOf_14 rfl (lv_at hl 2 rfl) ?_
    refine ck_get (v := .ref (ad 49)) hx hb hts hinX5 hown hK hW (hM.n 30 (by decide) (by decide)) hM.f30 rfl 22 (by decide) (hts _ (List.mem_of_getElem? (i := 1) rfl)) rfl rfl dX5_offerOf_15 ?_
    refine lv_iload_n hx hb dX5_offerOf_18 rfl (lv_at hl 3 rfl) ?_
    refine ck_iald hx hb hK hW (hM.n 49 (by decide) (by decide)) hM.f49 i (rfl) (by omega) (by decide) dX5_offerOf_19 ?_
    refine lv_iadd hx hb dX5_offerOf_20 ?_
    rw [hm, ck_10, nI_add]
    refine lv_icmp_ge (tgt := 72) hx hb dX5_offerOf_21 (by decide) (fun c_21 => absurd c_21 (nI_ge (by omega) (by omega))) (fun _ => ?_)
    refine lv_aload_n hx hb dX5_offerOf_24 rfl (lv_at hl 2 rfl) ?_
    refine ck_get (v := .ref (ad 50)) hx hb hts hinX5 hown hK hW (hM.n 30 (by decide) (by decide)) hM.f30 rfl 23 (by decide) (hts _ (List.mem_of_getElem? (i := 2) rfl)) rfl rfl dX5_offerOf_25 ?_
    refine lv_iload hx hb dX5_offerOf_28 (lv_at hl 0 rfl) ?_
    refine ck_iald hx hb hK hW (hM.n 50 (by decide) (by decide)) hM.f50 (10 * i + k8) (rfl) (by omega) (by decide) dX5_offerOf_30 ?_
    refine lv_iload_n hx hb dX5_offerOf_31 rfl (lv_at hl 4 rfl) ?_
    refine ck_cSi (As := [.int (((V 29)) (10 * i + k8)), .int a1]) (rest := []) ⟨hx, hb, hml, hown, hts⟩ hKK (ct_X5_fits l G s.heap ((((V 29)) (10 * i + k8))) a1 (hp29 k8 hk8) h0.1 h0.2) (va_cwS 2 hts gX5_offerOf_X5_fits rfl rfl rfl (by decide +kernel) ⟨Nat.le_of_ble_eq_true rfl, Nat.le_of_ble_eq_true rfl⟩) rfl hl rfl (Nat.le_of_ble_eq_true rfl) dX5_offerOf_32 ⟨Nat.le_of_ble_eq_true rfl, Nat.le_of_ble_eq_true rfl⟩ (fun r_32 h_32 => ?_)
    rcases h_32 with ⟨h_32, rfl⟩ | ⟨h_32, rfl⟩
    · skip
      refine lv_if_eq (tgt := 64) hx hb dX5_offerOf_35 (by decide) (fun c_35 => absurd c_35 (by decide)) (fun _ => ?_)
      obtain ⟨ob, hob⟩ : ∃ ob, ck_of (fun k => V 29 (10 * i + k)) a1 k8 = ob := ⟨_, rfl⟩
      rw [hob] at hl
      rcases ob with _ | b
      · skip
        have hl : lv_has ls 5 [(4, .int (nI (10 * i + k8))), (3, .int (-1)), (0, .ref (ad 30)), (1, .int (nI i)), (2, .int a1)] := hl
        refine lv_iload_n hx hb dX5_offerOf_38 rfl (lv_at hl 1 rfl) ?_
        refine lv_iconst (v := (-1)) hx hb dX5_offerOf_39 (by decide) ?_
        refine lv_icmp_eq (tgt := 59) hx hb dX5_offerOf_40 (by decide) (fun _ => ?_) (fun c_40 => absurd (by decide) c_40)
        refine lv_iload hx hb dX5_offerOf_59 (lv_at hl 0 rfl) ?_
        refine lv_goto (tgt := 65) hx hb dX5_offerOf_61 (by decide) ?_
        refine lv_istore_n (lv' := [(3, .int (nI (10 * i + k8))), (4, .int (nI (10 * i + k8))), (0, .ref (ad 30)), (1, .int (nI i)), (2, .int a1)]) hx hb dX5_offerOf_65 rfl hl (by decide) rfl (fun ls hl => ?_)
        refine lv_iinc (v := nI ((10 * i + k8) + 1)) (lv' := [(4, .int (nI ((10 * i + k8) + 1))), (3, .int (nI (10 * i + k8))), (0, .ref (ad 30)), (1, .int (nI i)), (2, .int a1)]) hx hb dX5_offerOf_66 hl (k := 1) rfl (nI_1 (10 * i + k8)) (by decide) rfl (fun ls hl => ?_)
        refine lv_goto (tgt := 8) hx hb dX5_offerOf_69 (by decide) ?_
        have e9 : ck_of (fun k => V 29 (10 * i + k)) a1 (k8 + 1) = _ := ck_of_yes h_32 (by rw [hob]; rfl)
        have hl : lv_has ls 5 [(4, .int (nI (10 * i + (k8 + 1)))), (3, .int (ck_bo i (ck_of (fun k => V 29 (10 * i + k)) a1 (k8 + 1)))), (0, .ref (ad 30)), (1, .int (nI i)), (2, .int a1)] := by rw [e9]; exact hl
        exact ih8 ls (lv_sub hl [0, 1, 2, 3, 4] rfl) (trivial)
      · skip
        have hbk : b < k8 := ck_of_lt hob
        have hl : lv_has ls 5 [(4, .int (nI (10 * i + k8))), (3, .int (nI (10 * i + b))), (0, .ref (ad 30)), (1, .int (nI i)), (2, .int a1)] := hl
        refine lv_iload_n hx hb dX5_offerOf_38 rfl (lv_at hl 1 rfl) ?_
        refine lv_iconst (v := (-1)) hx hb dX5_offerOf_39 (by decide) ?_
        refine lv_icmp_eq (tgt := 59) hx hb dX5_offerOf_40 (by decide) (fun c_40 => absurd c_40 (ck_m1 (by omega))) (fun _ => ?_)
        refine lv_aload_n hx hb dX5_offerOf_43 rfl (lv_at hl 2 rfl) ?_
        refine ck_get (v := .ref (ad 50)) hx hb hts hinX5 hown hK hW (hM.n 30 (by decide) (by decide)) hM.f30 rfl 23 (by decide) (hts _ (List.mem_of_getElem? (i := 2) rfl)) rfl rfl dX5_offerOf_44 ?_
        refine lv_iload hx hb dX5_offerOf_47 (lv_at hl 0 rfl) ?_
        refine ck_iald hx hb hK hW (hM.n 50 (by decide) (by decide)) hM.f50 (10 * i + k8) (rfl) (by omega) (by decide) dX5_offerOf_49 ?_
        refine lv_aload_n hx hb dX5_offerOf_50 rfl (lv_at hl 2 rfl) ?_
        refine ck_get (v := .ref (ad 50)) hx hb hts hinX5 hown hK hW (hM.n 30 (by decide) (by decide)) hM.f30 rfl 23 (by decide) (hts _ (List.mem_of_getElem? (i := 2) rfl)) rfl rfl dX5_offerOf_51 ?_
        refine lv_iload_n hx hb dX5_offerOf_54 rfl (lv_at hl 1 rfl) ?_
        refine ck_iald hx hb hK hW (hM.n 50 (by decide) (by decide)) hM.f50 (10 * i + b) (rfl) (by omega) (by decide) dX5_offerOf_55 ?_
        refine lv_icmp_le (tgt := 64) hx hb dX5_offerOf_56 (by decide) (fun c_56 => ?_) (fun c_56 => ?_)
        · skip
          refine lv_iload_n hx hb dX5_offerOf_64 rfl (lv_at hl 1 rfl) ?_
          refine lv_istore_n (lv' := [(3, .int (nI (10 * i + b))), (4, .int (nI (10 * i + k8))), (0, .ref (ad 30)), (1, .int (nI i)), (2, .int a1)]) hx hb dX5_offerOf_65 rfl hl (by decide) rfl (fun ls hl => ?_)
          refine lv_iinc (v := nI ((10 * i + k8) + 1)) (lv' := [(4, .int (nI ((10 * i + k8) + 1))), (3, .int (nI (10 * i + b))), (0, .ref (ad 30)), (1, .int (nI i)), (2, .int a1)]) hx hb dX5_offerOf_66 hl (k := 1) rfl (nI_1 (10 * i + k8)) (by decide) rfl (fun ls hl => ?_)
          refine lv_goto (tgt := 8) hx hb dX5_offerOf_69 (by decide) ?_
          have e9 : ck_of (fun k => V 29 (10 * i + k)) a1 (k8 + 1) = _ := ck_of_no (fun z => by have z2 := z.2; rw [hob] at z2; exact absurd (of_decide_eq_true z2) (Int32.not_lt.mpr c_56))
          have hl : lv_has ls 5 [(4, .int (nI (10 * i + (k8 + 1)))), (3, .int (ck_bo i (ck_of (fun k => V 29 (10 * i + k)) a1 (k8 + 1)))), (0, .ref (ad 30)), (1, .int (nI i)), (2, .int a1)] := by rw [e9, hob]; exact hl
          exact ih8 ls (lv_sub hl [0, 1, 2, 3, 4] rfl) (trivial)
        · skip
          refine lv_iload hx hb dX5_offerOf_59 (lv_at hl 0 rfl) ?_
          refine lv_goto (tgt := 65) hx hb dX5_offerOf_61 (by decide) ?_
          refine lv_istore_n (lv' := [(3, .int (nI (10 * i + k8))), (4, .int (nI (10 * i + k8))), (0, .ref (ad 30)), (1, .int (nI i)), (2, .int a1)]) hx hb dX5_offerOf_65 rfl hl (by decide) rfl (fun ls hl => ?_)
          refine lv_iinc (v := nI ((10 * i + k8) + 1)) (lv' := [(4, .int (nI ((10 * i + k8) + 1))), (3, .int (nI (10 * i + k8))), (0, .ref (ad 30)), (1, .int (nI i)), (2, .int a1)]) hx hb dX5_offerOf_66 hl (k := 1) rfl (nI_1 (10 * i + k8)) (by decide) rfl (fun ls hl => ?_)
          refine lv_goto (tgt := 8) hx hb dX5_offerOf_69 (by decide) ?_
          have e9 : ck_of (fun k => V 29 (10 * i + k)) a1 (k8 + 1) = _ := ck_of_yes h_32 (by rw [hob]; exact decide_eq_true (Int32.not_le.mp c_56))
          have hl : lv_has ls 5 [(4, .int (nI (10 * i + (k8 + 1)))), (3, .int (ck_bo i (ck_of (fun k => V 29 (10 * i + k)) a1 (k8 + 1)))), (0, .ref (ad 30)), (1, .int (nI i)), (2, .int a1)] := by rw [e9]; exact hl
          exact ih8 ls (lv_sub hl [0, 1, 2, 3, 4] rfl) (trivial)
    · skip
      refine lv_if_eq (tgt := 64) hx hb dX5_offerOf_35 (by decide) (fun _ => ?_) (fun c_35 => absurd (by decide) c_35)
      refine lv_iload_n hx hb dX5_offerOf_64 rfl (lv_at hl 1 rfl) ?_
      refine lv_istore_n (lv' := [(3, .int (ck_bo i (ck_of (fun k => V 29 (10 * i + k)) a1 k8))), (4, .int (nI (10 * i + k8))), (0, .ref (ad 30)), (1, .int (nI i)), (2, .int a1)]) hx hb dX5_offerOf_65 rfl hl (by decide) rfl (fun ls hl => ?_)
      refine lv_iinc (v := nI ((10 * i + k8) + 1)) (lv' := [(4, .int (nI ((10 * i + k8) + 1))), (3, .int (ck_bo i (ck_of (fun k => V 29 (10 * i + k)) a1 k8))), (0, .ref (ad 30)), (1, .int (nI i)), (2, .int a1)]) hx hb dX5_offerOf_66 hl (k := 1) rfl (nI_1 (10 * i + k8)) (by decide) rfl (fun ls hl => ?_)
      refine lv_goto (tgt := 8) hx hb dX5_offerOf_69 (by decide) ?_
      have e9 : ck_of (fun k => V 29 (10 * i + k)) a1 (k8 + 1) = _ := ck_of_no (fun z => h_32 z.1)
      have hl : lv_has ls 5 [(4, .int (nI (10 * i + (k8 + 1)))), (3, .int (ck_bo i (ck_of (fun k => V 29 (10 * i + k)) a1 (k8 + 1)))), (0, .ref (ad 30)), (1, .int (nI i)), (2, .int a1)] := by rw [e9]; exact hl
      exact ih8 ls (lv_sub hl [0, 1, 2, 3, 4] rfl) (trivial)
