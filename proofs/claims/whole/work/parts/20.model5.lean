theorem ck_pc {p : Program} {l : Launch} {e : Env} {R : Room} {s : State} {m : MethodId} {args : Array Value} {below : List Frame} {meth : Method} {c : Code} {H : Heap} {locs : List Loc} {cells slots : Nat} {Q : State → Prop} {ls : Array Slot} {pc q : Nat} {st : List Value} (h : pc = q) (k : W p l e R s m args below meth c H locs cells slots Q (F0 m q ls st)) : W p l e R s m args below meth c H locs cells slots Q (F0 m pc ls st) := by rw [h]; exact k
theorem ck_joinW {p : Program} {l : Launch} {e : Env} {R : Room} {s : State} {m : MethodId} {args : Array Value} {below : List Frame} {meth : Method} {c : Code} {H : Heap} {locs : List Loc} {cells slots : Nat} {Q : State → Prop} {ls : Array Slot} {pc to : Nat} {x : Int32} {st st2 : List Value} (h : W p l e R s m args below meth c H locs cells slots Q (F0 m to ls (.int x :: st))) (k : (∀ y, y = x → W p l e R s m args below meth c H locs cells slots Q (F0 m to ls (.int y :: st))) → W p l e R s m args below meth c H locs cells slots Q (F0 m pc ls st2)) : W p l e R s m args below meth c H locs cells slots Q (F0 m pc ls st2) := k (fun y e => by rw [e]; exact h)
theorem ck_rem64 {q : Nat} (h : q < 10000) : nI q - nI q / 64 * 64 = nI (q % 64) := pk_rem (by omega) (by decide) (by decide)
theorem ck_sh : ∀ k, k < 64 → ((nI k).toInt64 &&& 63) = lN k := by decide +kernel
theorem ck_smN : ∀ k, k < 64 → (((lN k).toBitVec.smod 64#64)).toNat = k := by decide +kernel
theorem ck_b1 (x : BitVec 64) : (x &&& 1#64 = 1#64) ↔ x.getLsbD 0 = true := by
  constructor
  · intro h
    have h2 := congrArg (fun z : BitVec 64 => z.getLsbD 0) h
    rw [BitVec.getLsbD_and, show (1#64 : BitVec 64).getLsbD 0 = true from rfl, Bool.and_true] at h2
    exact h2
  · intro h
    apply BitVec.eq_of_getLsbD_eq
    intro i hi
    rw [BitVec.getLsbD_and]
    by_cases z : i = 0
    · subst z; rw [h]; rfl
    · rw [show (1#64 : BitVec 64).getLsbD i = false by rw [BitVec.getLsbD_one]; simp [z], Bool.and_false]
theorem ck_b2 (x : BitVec 64) {k : Nat} (hk : k < 64) : (x &&& (1#64 <<< k) = 0#64) ↔ x.getLsbD k = false := by
  have e : ∀ i, i < 64 → (1#64 <<< k : BitVec 64).getLsbD i = decide (i = k) := by
    intro i hi
    rw [BitVec.getLsbD_shiftLeft, BitVec.getLsbD_one]
    by_cases z : i = k
    · subst z; simp [hi]
    · by_cases z2 : i < k
      · simp [z, z2]
      · have : ¬ i - k = 0 := by omega
        simp [z, this]
  constructor
  · intro h
    have h2 := congrArg (fun z : BitVec 64 => z.getLsbD k) h
    rw [BitVec.getLsbD_and, e k hk, decide_eq_true rfl, Bool.and_true, BitVec.getLsbD_zero] at h2
    exact h2
  · intro h
    apply BitVec.eq_of_getLsbD_eq
    intro i hi
    rw [BitVec.getLsbD_and, e i hi, BitVec.getLsbD_zero]
    by_cases z : i = k
    · subst z; rw [h]; rfl
    · rw [decide_eq_false z, Bool.and_false]
theorem ck_shr1 (w : Int64) {k : Nat} (hk : k < 64) : (w >>> lN k) &&& 1 = 1 ↔ w.toBitVec.getLsbD k = true := by
  rw [← Int64.toBitVec_inj, Int64.toBitVec_and, Int64.toBitVec_shiftRight]
  have e1 : w.toBitVec.sshiftRight' ((lN k).toBitVec.smod 64) = w.toBitVec.sshiftRight k := by
    show w.toBitVec.sshiftRight ((lN k).toBitVec.smod 64#64).toNat = _
    rw [ck_smN k hk]
  rw [e1]
  refine (ck_b1 _).trans ?_
  rw [BitVec.getLsbD_sshiftRight]; simp [hk]
theorem ck_and1 (w : Int64) {k : Nat} (hk : k < 64) : w &&& ((1 : Int64) <<< lN k) = 0 ↔ w.toBitVec.getLsbD k = false := by
  rw [← Int64.toBitVec_inj, Int64.toBitVec_and, Int64.toBitVec_shiftLeft]
  have e1 : (1 : Int64).toBitVec <<< ((lN k).toBitVec.smod 64) = 1#64 <<< k := by
    show 1#64 <<< ((lN k).toBitVec.smod 64#64).toNat = _
    rw [ck_smN k hk]
  rw [e1]
  exact ck_b2 _ hk
theorem ck_has (w : Int64) {q : Nat} (h : q < 10000) : (w >>> ((nI q - nI q / 64 * 64 : Int32).toInt64 &&& 63)) &&& 1 = 1 ↔ ¬ (w &&& ck_bit (nI q)) = 0 := by
  unfold ck_bit
  rw [ck_rem64 h, ck_sh _ (by omega), ck_shr1 w (by omega), ck_and1 w (by omega)]
  cases w.toBitVec.getLsbD (q % 64) <;> simp
theorem ck_cmp1 (x y : Int64) : lg_cmp x y = 0 ↔ x = y := by
  unfold lg_cmp
  by_cases h2 : x = y
  · subst h2; simp
  · by_cases h1 : x < y
    · simp [h1, h2]
      try (by_cases h3 : y < x <;> simp [h3])
    · simp [h1, h2]
      try (by_cases h3 : y < x <;> simp [h3])
theorem ck_leg_add : ∀ b : Nat, b < 8 → ∀ q : Nat, q < 3 → nI b &&& ((1 : Int32) <<< (nI q &&& 31)) = 0 → nI b + ((1 : Int32) <<< (nI q &&& 31)) = ck_leg (nI b) (nI q) := by decide +kernel
def ck_mlo (n lo s : Int32) : Int32 := if n = 0 ∨ s < lo then s else lo
def ck_mhi (n hi s : Int32) : Int32 := if n = 0 ∨ hi < s then s else hi
theorem ck_jn_le (m : Nat → Bool) : ∀ n k, ck_jn m k n ≤ k + n
  | 0, k => Nat.le_refl _
  | n + 1, k => by
    have := ck_jn_le m n (k + 1)
    simp only [ck_jn]; split <;> omega
theorem ck_jn_yes (m : Nat → Bool) : ∀ n k, ck_jn m k n < k + n → m (ck_jn m k n) = true
  | 0, k, h => absurd h (Nat.lt_irrefl _)
  | n + 1, k, h => by
    by_cases c : m k = true
    · simp only [ck_jn, if_pos c]; exact c
    · simp only [ck_jn, if_neg c] at h ⊢; exact ck_jn_yes m n (k + 1) (by omega)
def ck_isRec (a0 a1 a2 a3 a4 : Int32) : Prop := (0 ≤ a0 ∧ a0 ≤ 2) ∧ (0 ≤ a1 ∧ a1 ≤ 9999) ∧ ck_isN a2 ∧ (0 ≤ a3 ∧ a3 ≤ 999999) ∧ (0 ≤ a4 ∧ a4 ≤ 10000)
/-- the word of the numbers delivered, with one more -/
def ck_recL (L : Nat → Nat → Int64) (q s : Nat) : Nat → Nat → Int64 := va_up L q (vp_updL (L q) (s / 64) (L q (s / 64) ||| ck_bit (nI s)))
theorem ck_M.set31 {G : ck_G} {ad : Nat → Nat} {V : Nat → Nat → Int32} {L : Nat → Nat → Int64} {nc nr : Nat} {t : Int32} {N : Nat → Prop} {F F1 : Nat → va_E} (h : ck_M G ad V L nc nr t N F) {f : Nat → Int64} (hf : ∀ q w, q < 3 → w < 157 → f (157 * q + w) = L q w) {q w : Nat} (hq : q < 3) (hw : w < 157) {x : Int64} (e : F1 31 = .inl (G.2.1 1, 471, .inr (.inl (vp_updL f (157 * q + w) x)))) (o : ∀ j, j ≠ 31 → F1 j = F j) : ck_M G ad V (va_up L q (vp_updL (L q) w x)) nc nr t N F1 :=
  ⟨h.nc, h.nr, (o 30 (by decide)).trans h.f30, ⟨_, e, fun q1 w1 h1 h2 => by
    by_cases c : q1 = q
    · subst c
      rw [va_up_self]
      by_cases d : w1 = w
      · subst d; simp [vp_updL]
      · rw [show vp_updL (L q1) w x w1 = L q1 w1 by simp [vp_updL, d], ← hf q1 w1 h1 h2]
        simp [vp_updL]; intro z; omega
    · rw [va_up_ne _ _ c, ← hf q1 w1 h1 h2]
      simp [vp_updL]; intro z; omega⟩, (o 32 (by decide)).trans h.f32, (o 33 (by decide)).trans h.f33, (o 34 (by decide)).trans h.f34, (o 35 (by decide)).trans h.f35, (o 36 (by decide)).trans h.f36, (o 37 (by decide)).trans h.f37, (o 38 (by decide)).trans h.f38, (o 39 (by decide)).trans h.f39, (o 40 (by decide)).trans h.f40, (o 41 (by decide)).trans h.f41, (o 42 (by decide)).trans h.f42, (o 43 (by decide)).trans h.f43, (o 44 (by decide)).trans h.f44, (o 45 (by decide)).trans h.f45, (o 46 (by decide)).trans h.f46, (o 47 (by decide)).trans h.f47, (o 48 (by decide)).trans h.f48, (o 49 (by decide)).trans h.f49, (o 50 (by decide)).trans h.f50, (o 51 (by decide)).trans h.f51, h.n⟩
def ck_new3 (V : Nat → Nat → Int32) (j : Nat) (a2 a3 a4 : Int32) : Nat → Nat → Int32 := va_up (va_up (va_up V 0 (upd (V 0) j a2)) 1 (upd (V 1) j a3)) 2 (upd (V 2) j a4)
def ck_src3 (V : Nat → Nat → Int32) (q : Nat) (s : Int32) : Nat → Nat → Int32 := va_up (va_up (va_up V 18 (upd (V 18) q (ck_mlo (V 14 q) (V 18 q) s))) 19 (upd (V 19) q (ck_mhi (V 14 q) (V 19 q) s))) 14 (upd (V 14) q (V 14 q + 1))
def ck_leg3 (V : Nat → Nat → Int32) (j q : Nat) (a4 : Int32) : Nat → Nat → Int32 := va_up (va_up V 3 (upd (V 3) j (ck_leg (V 3 j) (nI q)))) 4 (upd (V 4) j (ck_max (V 4 j) a4))
/-- what the reference's record does, in a state V, L, nc: code k, answer r, the state behind it -/
def ck_Rrec (V : Nat → Nat → Int32) (L : Nat → Nat → Int64) (nc : Nat) (a0 a1 a2 a3 a4 k r : Int32) (V1 : Nat → Nat → Int32) (L1 : Nat → Nat → Int64) (nc1 : Nat) : Prop :=
  (¬ ck_isRec a0 a1 a2 a3 a4 ∧ k = 1 ∧ V1 = V ∧ L1 = L ∧ nc1 = nc) ∨
  (ck_isRec a0 a1 a2 a3 a4 ∧ ∃ q s, q < 3 ∧ s < 10000 ∧ a0 = nI q ∧ a1 = nI s ∧
    ((¬ (L q (s / 64) &&& ck_bit (nI s)) = 0 ∧ k = 0 ∧ r = -1 ∧ V1 = va_up V 15 (upd (V 15) q (V 15 q + 1)) ∧ L1 = L ∧ nc1 = nc) ∨
     ((L q (s / 64) &&& ck_bit (nI s)) = 0 ∧ ∃ j, ck_jn (ck_mt V (V 13 0) (nI q) a2 a3 a4) 0 nc = j ∧
      ((j = 60 ∧ k = 2 ∧ V1 = V ∧ L1 = L ∧ nc1 = nc) ∨
       (j < 60 ∧ j = nc ∧ k = 0 ∧ r = nI j ∧ V1 = ck_leg3 (ck_new3 (ck_src3 V q (nI s)) j a2 a3 a4) j q a4 ∧ L1 = ck_recL L q s ∧ nc1 = nc + 1) ∨
       (j < nc ∧ k = 0 ∧ r = nI j ∧ V1 = ck_leg3 (ck_src3 V q (nI s)) j q a4 ∧ L1 = ck_recL L q s ∧ nc1 = nc)))))
theorem ck_rgI {x lo hi : Int32} {A B : Int} (h : lo ≤ x ∧ x ≤ hi) (hA : A ≤ lo.toInt) (hB : hi.toInt ≤ B) : ck_rg A x B := ⟨Int.le_trans hA ((fa_le _ _).mp h.1), Int.le_trans ((fa_le _ _).mp h.2) hB⟩
theorem ck_at157 (q s : Nat) (hs : s < 10000) : (157 : Int32) * nI q + nI s / 64 = nI (157 * q + s / 64) := by
  rw [show (157 : Int32) = nI 157 from rfl, show (64 : Int32) = nI 64 from rfl, pk_mul, pk_div (by omega) (by decide) (by decide), nI_add]
set_option maxHeartbeats 4000000 in
set_option maxRecDepth 100000 in
theorem ct_X5_record (l : Launch) (G : ck_G) (H : Heap) (ad : Nat → Nat) (N : Nat → Prop) (F : Nat → va_E) (hW : ck_W G ad N F H) (V : Nat → Nat → Int32) (L : Nat → Nat → Int64) (nc nr : Nat) (t : Int32) (hM : ck_M G ad V L nc nr t N F) (hI : ck_I V nc nr) (a0 a1 a2 a3 a4 : Int32) : Met l yX5_record wsX5_record ({ frames := 2, cells := 0, slots := 0, locals := 46 }) (ck_P G H [.ref (ad 30), .int a0, .int a1, .int a2, .int a3, .int a4]) (ck_Qi G (fun r H1 => ∃ t1 V1 L1 nc1 F1, ck_Rrec V L nc a0 a1 a2 a3 a4 t1 r V1 L1 nc1 ∧ ck_W G ad N F1 H1 ∧ ck_M G ad V1 L1 nc1 nr t1 N F1 ∧ ck_sM F F1)) 0 0 (ck_A G) := by
  refine Met.ofW (cc := cX5_record) (maxL := 8) (ret := (some .int)) (by decide) rfl ?_
  intro p e s m args below meth c s₁ B hml hv
  obtain ⟨rfl, hH, hKK⟩ := hv
  subst hH
  have hx := B.exec
  have hb := B.bytes
  have hr := B.returns
  have hts := atoms_spec (ws := wsX5_record) B.pre
  have hown : s.vm.findClass RX5 = some m.cls := findClass_of_methodNamed B.named
  have hlocks := B.notSynchronized
  have hKK0 := hKK
  have hK := hKK.1.1
  have hS : va_S (ck_A G) s.heap s.heap [] := va_S.rf
  have hinX5 : ∀ w ∈ u_ws RX5 TX5 26, w ∈ wsX5_record := by decide +kernel
  have hl := lv_entry ([.ref (ad 30), .int a0, .int a1, .int a2, .int a3, .int a4]) (n := 8) (Nat.le_of_ble_eq_true rfl)
  rw [lg_entry_eq]
  generalize (lg_sl ([.ref (ad 30), .int a0, .int a1, .int a2, .int a3, .int a4]) ++ List.replicate (8 - (lg_sl ([.ref (ad 30), .int a0, .int a1, .int a2, .int a3, .int a4])).length) Slot.unset).toArray = ls at hl ⊢
  have hl : lv_has ls 8 [(0, .ref (ad 30)), (1, .int a0), (2, .int a1), (3, .int a2), (4, .int a3), (5, .int a4)] := hl
  have hsm : ck_sM F F := ck_sM.rf
  have hp7 := hI.hp7
  have hn0 := hI.hn0
  have hst := hI.hst
  refine lv_aload_n hx hb dX5_record_0 rfl (lv_at hl 0 rfl) ?_
  refine lv_iload_n hx hb dX5_record_1 rfl (lv_at hl 1 rfl) ?_
  refine lv_iconst (v := 0) hx hb dX5_record_2 (by decide) ?_
  refine lv_iconst (v := 2) hx hb dX5_record_3 (by decide) ?_
  refine ck_cSi (As := [.int a0, .int 0, .int 2]) (rest := [.ref (ad 30)]) ⟨hx, hb, hml, hown, hts⟩ hKK (ct_X5_in l G s.heap a0 0 2) (va_cwS 3 hts gX5_record_X5_in rfl rfl rfl (by decide +kernel) ⟨Nat.le_of_ble_eq_true rfl, Nat.le_of_ble_eq_true rfl⟩) rfl hl rfl (Nat.le_of_ble_eq_true rfl) dX5_record_4 ⟨Nat.le_of_ble_eq_true rfl, Nat.le_of_ble_eq_true rfl⟩ (fun r_4 h_4 => ?_)
  rcases h_4 with ⟨h_4, rfl⟩ | ⟨h_4, rfl⟩
  · skip
    refine lv_if_eq (tgt := 55) hx hb dX5_record_7 (by decide) (fun c_7 => absurd c_7 (by decide)) (fun _ => ?_)
    refine lv_iload_n hx hb dX5_record_10 rfl (lv_at hl 2 rfl) ?_
    refine ck_pc (q := 11) rfl ?_
    refine lv_iconst (v := 0) hx hb dX5_record_11 (by decide) ?_
    refine lv_sipush (v := 9999) hx hb dX5_record_12 (by decide) ?_
    refine ck_cSi (As := [.int a1, .int 0, .int 9999]) (rest := [.ref (ad 30)]) ⟨hx, hb, hml, hown, hts⟩ hKK (ct_X5_in l G s.heap a1 0 9999) (va_cwS 3 hts gX5_record_X5_in rfl rfl rfl (by decide +kernel) ⟨Nat.le_of_ble_eq_true rfl, Nat.le_of_ble_eq_true rfl⟩) rfl hl rfl (Nat.le_of_ble_eq_true rfl) dX5_record_15 ⟨Nat.le_of_ble_eq_true rfl, Nat.le_of_ble_eq_true rfl⟩ (fun r_15 h_15 => ?_)
    rcases h_15 with ⟨h_15, rfl⟩ | ⟨h_15, rfl⟩
    · skip
      refine lv_if_eq (tgt := 55) hx hb dX5_record_18 (by decide) (fun c_18 => absurd c_18 (by decide)) (fun _ => ?_)
      refine lv_iload_n hx hb dX5_record_21 rfl (lv_at hl 3 rfl) ?_
      refine ck_cSi (As := [.int a2]) (rest := [.ref (ad 30)]) ⟨hx, hb, hml, hown, hts⟩ hKK (ct_X5_isNumber l G s.heap a2) (va_cwS 1 hts gX5_record_X5_isNumber rfl rfl rfl (by decide +kernel) ⟨Nat.le_of_ble_eq_true rfl, Nat.le_of_ble_eq_true rfl⟩) rfl hl rfl (Nat.le_of_ble_eq_true rfl) dX5_record_22 ⟨Nat.le_of_ble_eq_true rfl, Nat.le_of_ble_eq_true rfl⟩ (fun r_22 h_22 => ?_)
      rcases h_22 with ⟨h_22, rfl⟩ | ⟨h_22, rfl⟩
      · skip
        refine lv_if_eq (tgt := 55) hx hb dX5_record_25 (by decide) (fun c_25 => absurd c_25 (by decide)) (fun _ => ?_)
        refine lv_iload hx hb dX5_record_28 (lv_at hl 4 rfl) ?_
        refine ck_pc (q := 30) rfl ?_
        refine lv_iconst (v := 0) hx hb dX5_record_30 (by decide) ?_
        refine lv_ldc (v := 999999) hx hb hown (hts _ (List.mem_of_getElem? (i := 1) rfl)) dX5_record_31 ?_
        refine ck_cSi (As := [.int a3, .int 0, .int 999999]) (rest := [.ref (ad 30)]) ⟨hx, hb, hml, hown, hts⟩ hKK (ct_X5_in l G s.heap a3 0 999999) (va_cwS 3 hts gX5_record_X5_in rfl rfl rfl (by decide +kernel) ⟨Nat.le_of_ble_eq_true rfl, Nat.le_of_ble_eq_true rfl⟩) rfl hl rfl (Nat.le_of_ble_eq_true rfl) dX5_record_33 ⟨Nat.le_of_ble_eq_true rfl, Nat.le_of_ble_eq_true rfl⟩ (fun r_33 h_33 => ?_)
        rcases h_33 with ⟨h_33, rfl⟩ | ⟨h_33, rfl⟩
        · skip
          refine lv_if_eq (tgt := 55) hx hb dX5_record_36 (by decide) (fun c_36 => absurd c_36 (by decide)) (fun _ => ?_)
          refine lv_iload hx hb dX5_record_39 (lv_at hl 5 rfl) ?_
          refine lv_iconst (v := 0) hx hb dX5_record_41 (by decide) ?_
          refine lv_sipush (v := 10000) hx hb dX5_record_42 (by decide) ?_
          refine ck_cSi (As := [.int a4, .int 0, .int 10000]) (rest := [.ref (ad 30)]) ⟨hx, hb, hml, hown, hts⟩ hKK (ct_X5_in l G s.heap a4 0 10000) (va_cwS 3 hts gX5_record_X5_in rfl rfl rfl (by decide +kernel) ⟨Nat.le_of_ble_eq_true rfl, Nat.le_of_ble_eq_true rfl⟩) rfl hl rfl (Nat.le_of_ble_eq_true rfl) dX5_record_45 ⟨Nat.le_of_ble_eq_true rfl, Nat.le_of_ble_eq_true rfl⟩ (fun r_45 h_45 => ?_)
          rcases h_45 with ⟨h_45, rfl⟩ | ⟨h_45, rfl⟩
          · skip
            refine ck_pc (q := 48) rfl ?_
            refine lv_if_eq (tgt := 55) hx hb dX5_record_48 (by decide) (fun c_48 => absurd c_48 (by decide)) (fun _ => ?_)
            refine lv_iconst (v := 1) hx hb dX5_record_51 (by decide) ?_
            refine lv_goto (tgt := 56) hx hb dX5_record_52 (by decide) ?_
            refine ck_cVw (As := [.int 1]) (rest := []) ⟨hx, hb, hml, hown, hts⟩ hKK (ct_X5_asks1 l G s.heap ad N F hW V L nc nr t hM) (cwV 1 hts gX5_record_X5_asks rfl rfl rfl (by decide +kernel) ⟨Nat.le_of_ble_eq_true rfl, Nat.le_of_ble_eq_true rfl⟩) (ck_recv hK hW (hM.n 30 (by decide) (by decide)) hM.f30 rfl) rfl hl rfl (Nat.le_of_ble_eq_true rfl) dX5_record_56 ⟨Nat.le_of_ble_eq_true rfl, Nat.le_of_ble_eq_true rfl⟩ hS (fun r_56 H locs h_56 hz_56 hS => ?_)
            have hKK := hKK0.keep hS.2.1
            obtain ⟨rfl, F_56, hW, hM, hs56⟩ := h_56
            have hsm := hsm.tr hs56
            refine lv_if_ne (tgt := 64) hx hb dX5_record_59 (by decide) (fun _ => ?_) (fun c_59 => absurd c_59 (by decide))
            obtain ⟨q, hq, rfl⟩ := ck_in3 h_4
            obtain ⟨s0, hs0, rfl⟩ := ck_in_nI (n := 9999) h_15.1 h_15.2 (by decide)
            have hs1 : s0 < 10000 := by omega
            have hr3 : ck_rg 0 a3 1000000 := ck_rgI h_33 (lo := 0) (hi := 999999) (by decide) (by decide)
            have hr4 : ck_rg 0 a4 1000000 := ck_rgI h_45 (lo := 0) (hi := 10000) (by decide) (by decide)
            obtain ⟨fd, hM31, hfd⟩ := hM.f31
            refine lv_sipush (v := 157) hx hb dX5_record_64 (by decide) ?_
            refine lv_iload_n hx hb dX5_record_67 rfl (lv_at hl 1 rfl) ?_
            refine lv_imul hx hb dX5_record_68 ?_
            refine ck_pc (q := 69) rfl ?_
            refine lv_iload_n hx hb dX5_record_69 rfl (lv_at hl 2 rfl) ?_
            refine lv_bipush (v := 64) hx hb dX5_record_70 (by decide) ?_
            refine lv_idiv hx hb dX5_record_72 (by decide) ?_
            refine lv_iadd hx hb dX5_record_73 ?_
            refine lv_topi (fun y9 ey9 => ?_)
            have ey8 : y9 = nI (157 * q + s0 / 64) := ey9.trans (ck_at157 q s0 hs1)
            subst ey8
            refine lv_istore (lv' := [(6, .int (nI (157 * q + s0 / 64))), (0, .ref (ad 30)), (1, .int (nI q)), (2, .int (nI s0)), (3, .int a2), (4, .int a3), (5, .int a4)]) hx hb dX5_record_74 hl (by decide) rfl (fun ls hl => ?_)
            refine lv_aload_n hx hb dX5_record_76 rfl (lv_at hl 1 rfl) ?_
            refine ck_get (v := .ref (ad 31)) hx hb hts hinX5 hown hK hW (hM.n 30 (by decide) (by decide)) hM.f30 rfl 1 (by decide) (hts _ (List.mem_of_getElem? (i := 2) rfl)) rfl rfl dX5_record_77 ?_
            refine lv_iload hx hb dX5_record_80 (lv_at hl 0 rfl) ?_
            refine ck_pc (q := 82) rfl ?_
            refine ck_lald hx hb hK hW (hM.n 31 (by decide) (by decide)) hM31 (157 * q + s0 / 64) (rfl) (by omega) (by decide) dX5_record_82 ?_
            refine lv_iload_n hx hb dX5_record_83 rfl (lv_at hl 3 rfl) ?_
            refine lv_bipush (v := 64) hx hb dX5_record_84 (by decide) ?_
            refine lv_irem hx hb dX5_record_86 (by decide) ?_
            refine lv_lshr (v := ((fd (157 * q + s0 / 64))) >>> (((((nI s0)) - ((nI s0)) / 64 * 64) : Int32).toInt64 &&& 63)) hx hb dX5_record_87 rfl ?_
            refine lv_lconst (v := 1) hx hb dX5_record_88 (by decide) ?_
            refine lv_land hx hb dX5_record_89 ?_
            refine lv_lconst (v := 1) hx hb dX5_record_90 (by decide) ?_
            refine ck_pc (q := 91) rfl ?_
            refine W.lcmp hx hb dX5_record_91 ?_
            have hfd0 : fd (157 * q + s0 / 64) = L q (s0 / 64) := hfd q (s0 / 64) hq (by omega)
            by_cases hd : (L q (s0 / 64) &&& ck_bit (nI s0)) = 0
            · skip
              have c92 : ¬ ((lg_cmp ((((((fd (157 * q + s0 / 64))) >>> (((((nI s0)) - ((nI s0)) / 64 * 64) : Int32).toInt64 &&& 63))) &&& 1)) 1)) = 0 := fun z => (ck_has _ hs1).mp ((ck_cmp1 _ _).mp (by rw [← hfd0]; exact z)) hd
              refine lv_if_ne (tgt := 107) hx hb dX5_record_92 (by decide) (fun _ => ?_) (fun c_92 => absurd c_92 (c92))
              refine lv_aload_n hx hb dX5_record_107 rfl (lv_at hl 1 rfl) ?_
              refine lv_iload_n hx hb dX5_record_108 rfl (lv_at hl 2 rfl) ?_
              refine lv_iload_n hx hb dX5_record_109 rfl (lv_at hl 4 rfl) ?_
              refine lv_iload hx hb dX5_record_110 (lv_at hl 5 rfl) ?_
              refine lv_iload hx hb dX5_record_112 (lv_at hl 6 rfl) ?_
              refine ck_cVi (As := [.int (nI q), .int a2, .int a3, .int a4]) (rest := []) ⟨hx, hb, hml, hown, hts⟩ hKK (ct_X5_joined l G H ad N F_56 hW V L nc nr 0 hM q hq a2 a3 a4 (fun k hk => ⟨(hI.beg k hk).1, by have := (hI.beg k hk).2; omega⟩) (fun k hk => ⟨(hI.fst k hk).1, by have := (hI.fst k hk).2; omega⟩) hI.bits hr3 hr4) (cwV 4 hts gX5_record_X5_joined rfl rfl rfl (by decide +kernel) ⟨Nat.le_of_ble_eq_true rfl, Nat.le_of_ble_eq_true rfl⟩) (ck_recv hK hW (hM.n 30 (by decide) (by decide)) hM.f30 rfl) rfl hl rfl (Nat.le_of_ble_eq_true rfl) dX5_record_114 ⟨Nat.le_of_ble_eq_true rfl, Nat.le_of_ble_eq_true rfl⟩ (fun r_114 h_114 => ?_)
              subst h_114
              obtain ⟨j0, hj0⟩ : ∃ j0, (ck_jn (ck_mt V (V 13 0) (nI q) a2 a3 a4) 0 nc) = j0 := ⟨_, rfl⟩
              rw [hj0]
              have hjl : j0 ≤ nc := by have := ck_jn_le (ck_mt V (V 13 0) (nI q) a2 a3 a4) nc 0; omega
              have hjc := hM.nc
              refine ck_pc (q := 117) rfl ?_
              refine lv_istore (lv' := [(7, .int (nI j0)), (6, .int (nI (157 * q + s0 / 64))), (0, .ref (ad 30)), (1, .int (nI q)), (2, .int (nI s0)), (3, .int a2), (4, .int a3), (5, .int a4)]) hx hb dX5_record_117 hl (by decide) rfl (fun ls hl => ?_)
              refine lv_iload hx hb dX5_record_119 (lv_at hl 0 rfl) ?_
              refine lv_bipush (v := 60) hx hb dX5_record_121 (by decide) ?_
              refine lv_icmp_ne (tgt := 132) hx hb dX5_record_123 (by decide) (fun c_123 => ?_) (fun c_123 => ?_)
              · skip
                have hj60 : j0 < 60 := Nat.lt_of_le_of_ne (by omega) (fun z => c_123 (by rw [z]; rfl))
                refine lv_aload_n hx hb dX5_record_132 rfl (lv_at hl 2 rfl) ?_
                refine ck_get (v := .ref (ad 31)) hx hb hts hinX5 hown hK hW (hM.n 30 (by decide) (by decide)) hM.f30 rfl 1 (by decide) (hts _ (List.mem_of_getElem? (i := 2) rfl)) rfl rfl dX5_record_133 ?_
                refine lv_iload hx hb dX5_record_136 (lv_at hl 1 rfl) ?_
                refine lv_dup2_11 hx hb dX5_record_138 rfl rfl ?_
                refine ck_pc (q := 139) rfl ?_
                refine ck_lald hx hb hK hW (hM.n 31 (by decide) (by decide)) hM31 (157 * q + s0 / 64) (rfl) (by omega) (by decide) dX5_record_139 ?_
                refine lv_lconst (v := 1) hx hb dX5_record_140 (by decide) ?_
                refine lv_iload_n hx hb dX5_record_141 rfl (lv_at hl 4 rfl) ?_
                refine lv_bipush (v := 64) hx hb dX5_record_142 (by decide) ?_
                refine lv_irem hx hb dX5_record_144 (by decide) ?_
                refine lv_lshl (v := 1 <<< (((((nI s0)) - ((nI s0)) / 64 * 64) : Int32).toInt64 &&& 63)) hx hb dX5_record_145 rfl ?_
                refine lv_lor hx hb dX5_record_146 ?_
                refine ck_last hx hb hK hW hS (hM.n 31 (by decide) (by decide)) hM31 (157 * q + s0 / 64) (rfl) (by omega) (by decide) dX5_record_147 (fun H locs hW hS hz147 => ?_)
                obtain ⟨F_147, hFe147, hFo147, hW⟩ := ck_name hW
                have hM := hM.set31 hfd hq (w := s0 / 64) (by omega) (x := L q (s0 / 64) ||| ck_bit (nI s0)) (by rw [← hfd0]; exact hFe147) hFo147
                have hsm := hsm.put (by decide) hFo147
                have hKK := hKK0.keep hS.2.1
                refine ck_pc (q := 148) rfl ?_
                refine lv_aload_n hx hb dX5_record_148 rfl (lv_at hl 2 rfl) ?_
                refine ck_get (v := .ref (ad 33)) hx hb hts hinX5 hown hK hW (hM.n 30 (by decide) (by decide)) hM.f30 rfl 3 (by decide) (hts _ (List.mem_of_getElem? (i := 4) rfl)) rfl rfl dX5_record_149 ?_
                refine lv_iload_n hx hb dX5_record_152 rfl (lv_at hl 3 rfl) ?_
                refine ck_joinW (to := 182) (x := ck_mlo (V 14 q) (V 18 q) (nI s0)) (st := [.int (nI q), .ref (ad 33)]) ?_ ?_
                · skip
                  refine ck_iast hx hb hK hW hS (hM.n 33 (by decide) (by decide)) hM.f33 q (rfl) (by omega) (by decide) dX5_record_182 (fun H locs hW hS hz182 => ?_)
                  obtain ⟨F_182, hFe182, hFo182, hW⟩ := ck_name hW
                  have hM := hM.set33 (x := (upd ((V 18)) q ((ck_mlo (V 14 q) (V 18 q) (nI s0))))) hFe182 hFo182
                  have hsm := hsm.put (by decide) hFo182
                  have hKK := hKK0.keep hS.2.1
                  refine lv_aload_n hx hb dX5_record_183 rfl (lv_at hl 2 rfl) ?_
                  refine ck_get (v := .ref (ad 34)) hx hb hts hinX5 hown hK hW (hM.n 30 (by decide) (by decide)) hM.f30 rfl 4 (by decide) (hts _ (List.mem_of_getElem? (i := 6) rfl)) rfl rfl dX5_record_184 ?_
                  refine lv_iload_n hx hb dX5_record_187 rfl (lv_at hl 3 rfl) ?_
                  refine ck_joinW (to := 217) (x := ck_mhi (V 14 q) (V 19 q) (nI s0)) (st := [.int (nI q), .ref (ad 34)]) ?_ ?_
                  · skip
                    refine ck_iast hx hb hK hW hS (hM.n 34 (by decide) (by decide)) hM.f34 q (rfl) (by omega) (by decide) dX5_record_217 (fun H locs hW hS hz217 => ?_)
                    obtain ⟨F_217, hFe217, hFo217, hW⟩ := ck_name hW
                    have hM := hM.set34 (x := (upd ((V 19)) q ((ck_mhi (V 14 q) (V 19 q) (nI s0))))) hFe217 hFo217
                    have hsm := hsm.put (by decide) hFo217
                    have hKK := hKK0.keep hS.2.1
                    refine ck_pc (q := 218) rfl ?_
                    refine lv_aload_n hx hb dX5_record_218 rfl (lv_at hl 2 rfl) ?_
                    refine ck_get (v := .ref (ad 32)) hx hb hts hinX5 hown hK hW (hM.n 30 (by decide) (by decide)) hM.f30 rfl 2 (by decide) (hts _ (List.mem_of_getElem? (i := 5) rfl)) rfl rfl dX5_record_219 ?_
                    refine lv_iload_n hx hb dX5_record_222 rfl (lv_at hl 3 rfl) ?_
                    refine lv_dup2_11 hx hb dX5_record_223 rfl rfl ?_
                    refine ck_iald hx hb hK hW (hM.n 32 (by decide) (by decide)) hM.f32 q (rfl) (by omega) (by decide) dX5_record_224 ?_
                    refine lv_iconst (v := 1) hx hb dX5_record_225 (by decide) ?_
                    refine lv_iadd hx hb dX5_record_226 ?_
                    refine ck_iast hx hb hK hW hS (hM.n 32 (by decide) (by decide)) hM.f32 q (rfl) (by omega) (by decide) dX5_record_227 (fun H locs hW hS hz227 => ?_)
                    obtain ⟨F_227, hFe227, hFo227, hW⟩ := ck_name hW
                    have hM := hM.set32 (x := (upd ((V 14)) q ((((((V 14)) q)) + 1)))) hFe227 hFo227
                    have hsm := hsm.put (by decide) hFo227
                    have hKK := hKK0.keep hS.2.1
                    rcases Nat.lt_or_ge j0 nc with hjn | hjn
                    · skip
                      have c234 : ¬ nI j0 = nI nc := fun z => by have := (nI_eq (by omega) (by omega)).mp z; omega
                      obtain ⟨b3, hb38, eb3⟩ := hI.bits j0 hjn
                      have hmt := ck_jn_yes (ck_mt V (V 13 0) (nI q) a2 a3 a4) nc 0 (by omega)
                      rw [hj0] at hmt
                      have hleg : V 3 j0 + ((1 : Int32) <<< (nI q &&& 31)) = ck_leg (V 3 j0) (nI q) := by rw [eb3]; exact ck_leg_add b3 hb38 q hq (by rw [← eb3]; exact (of_decide_eq_true hmt).2.1)
                      refine ck_pc (q := 228) rfl ?_
                      refine lv_iload hx hb dX5_record_228 (lv_at hl 0 rfl) ?_
                      refine lv_aload_n hx hb dX5_record_230 rfl (lv_at hl 2 rfl) ?_
                      refine ck_get (v := .int (nI nc)) hx hb hts hinX5 hown hK hW (hM.n 30 (by decide) (by decide)) hM.f30 rfl 6 (by decide) (hts _ (List.mem_of_getElem? (i := 7) rfl)) rfl rfl dX5_record_231 ?_
                      refine lv_icmp_ne (tgt := 273) hx hb dX5_record_234 (by decide) (fun _ => ?_) (fun c_234 => absurd c_234 (c234))
                      refine lv_aload_n hx hb dX5_record_273 rfl (lv_at hl 2 rfl) ?_
                      refine ck_get (v := .ref (ad 40)) hx hb hts hinX5 hown hK hW (hM.n 30 (by decide) (by decide)) hM.f30 rfl 11 (by decide) (hts _ (List.mem_of_getElem? (i := 11) rfl)) rfl rfl dX5_record_274 ?_
                      refine lv_iload hx hb dX5_record_277 (lv_at hl 0 rfl) ?_
                      refine lv_dup2_11 hx hb dX5_record_279 rfl rfl ?_
                      refine ck_pc (q := 280) rfl ?_
                      refine ck_iald hx hb hK hW (hM.n 40 (by decide) (by decide)) hM.f40 j0 (rfl) (by omega) (by decide) dX5_record_280 ?_
                      refine lv_iconst (v := 1) hx hb dX5_record_281 (by decide) ?_
                      refine lv_iload_n hx hb dX5_record_282 rfl (lv_at hl 3 rfl) ?_
                      refine lv_ishl hx hb dX5_record_283 ?_
                      refine lv_iadd hx hb dX5_record_284 ?_
                      refine lv_topi (fun y9 ey9 => ?_)
                      have ey8 : y9 = ck_leg (V 3 j0) (nI q) := ey9.trans (hleg)
                      subst ey8
                      refine ck_iast hx hb hK hW hS (hM.n 40 (by decide) (by decide)) hM.f40 j0 (rfl) (by omega) (by decide) dX5_record_285 (fun H locs hW hS hz285 => ?_)
                      obtain ⟨F_285, hFe285, hFo285, hW⟩ := ck_name hW
                      have hM := hM.set40 (x := (upd ((V 3)) j0 ((ck_leg (V 3 j0) (nI q))))) hFe285 hFo285
                      have hsm := hsm.put (by decide) hFo285
                      have hKK := hKK0.keep hS.2.1
                      refine lv_aload_n hx hb dX5_record_286 rfl (lv_at hl 2 rfl) ?_
                      refine ck_get (v := .ref (ad 39)) hx hb hts hinX5 hown hK hW (hM.n 30 (by decide) (by decide)) hM.f30 rfl 10 (by decide) (hts _ (List.mem_of_getElem? (i := 12) rfl)) rfl rfl dX5_record_287 ?_
                      refine ck_pc (q := 290) rfl ?_
                      refine lv_iload hx hb dX5_record_290 (lv_at hl 0 rfl) ?_
                      refine ck_joinW (to := 316) (x := ck_max (V 4 j0) a4) (st := [.int (nI j0), .ref (ad 39)]) ?_ ?_
                      · skip
                        refine ck_iast hx hb hK hW hS (hM.n 39 (by decide) (by decide)) hM.f39 j0 (rfl) (by omega) (by decide) dX5_record_316 (fun H locs hW hS hz316 => ?_)
                        obtain ⟨F_316, hFe316, hFo316, hW⟩ := ck_name hW
                        have hM := hM.set39 (x := (upd ((V 4)) j0 ((ck_max (V 4 j0) a4)))) hFe316 hFo316
                        have hsm := hsm.put (by decide) hFo316
                        have hKK := hKK0.keep hS.2.1
                        refine lv_iload hx hb dX5_record_317 (lv_at hl 0 rfl) ?_
                        exact W.iret (v := (nI j0)) hx hb hr (fun t ht hW9 => ⟨⟨_, rfl, by rw [ht]; exact ⟨_, _, _, _, F_316, Or.inr ⟨⟨h_4, h_15, h_22, h_33, h_45⟩, q, s0, hq, hs1, rfl, rfl, Or.inr ⟨hd, j0, hj0, Or.inr (Or.inr ⟨hjn, rfl, rfl, rfl, rfl, rfl⟩)⟩⟩, hW, hM, hsm⟩⟩, hS.F ht⟩) hS.2.2 dX5_record_319
                      · intro J316
                        refine lv_iload hx hb dX5_record_292 (lv_at hl 7 rfl) ?_
                        refine lv_aload_n hx hb dX5_record_294 rfl (lv_at hl 2 rfl) ?_
                        refine ck_get (v := .ref (ad 39)) hx hb hts hinX5 hown hK hW (hM.n 30 (by decide) (by decide)) hM.f30 rfl 10 (by decide) (hts _ (List.mem_of_getElem? (i := 12) rfl)) rfl rfl dX5_record_295 ?_
                        refine lv_iload hx hb dX5_record_298 (lv_at hl 0 rfl) ?_
                        refine ck_iald hx hb hK hW (hM.n 39 (by decide) (by decide)) hM.f39 j0 (rfl) (by omega) (by decide) dX5_record_300 ?_
                        refine lv_icmp_le (tgt := 309) hx hb dX5_record_301 (by decide) (fun c_301 => ?_) (fun c_301 => ?_)
                        · skip
                          refine lv_aload_n hx hb dX5_record_309 rfl (lv_at hl 2 rfl) ?_
                          refine ck_pc (q := 310) rfl ?_
                          refine ck_get (v := .ref (ad 39)) hx hb hts hinX5 hown hK hW (hM.n 30 (by decide) (by decide)) hM.f30 rfl 10 (by decide) (hts _ (List.mem_of_getElem? (i := 12) rfl)) rfl rfl dX5_record_310 ?_
                          refine lv_iload hx hb dX5_record_313 (lv_at hl 0 rfl) ?_
                          refine ck_iald hx hb hK hW (hM.n 39 (by decide) (by decide)) hM.f39 j0 (rfl) (by omega) (by decide) dX5_record_315 ?_
                          exact J316 _ ((if_neg (Int32.not_lt.mpr c_301)).symm)
                        · skip
                          refine lv_iload hx hb dX5_record_304 (lv_at hl 7 rfl) ?_
                          refine ck_pc (q := 306) rfl ?_
                          refine lv_goto (tgt := 316) hx hb dX5_record_306 (by decide) ?_
                          exact J316 _ ((if_pos (Int32.not_le.mp c_301)).symm)
                    · skip
                      have hjn0 : j0 = nc := by omega
                      have c234 : nI j0 = nI nc := by rw [hjn0]
                      have hleg : V 3 j0 + ((1 : Int32) <<< (nI q &&& 31)) = ck_leg (V 3 j0) (nI q) := by rw [(hI.fresh j0 hjn hj60).1]; exact ck_leg_add 0 (by decide) q hq (by rw [nI_0, Int32.zero_and])
                      refine ck_pc (q := 228) rfl ?_
                      refine lv_iload hx hb dX5_record_228 (lv_at hl 0 rfl) ?_
                      refine lv_aload_n hx hb dX5_record_230 rfl (lv_at hl 2 rfl) ?_
                      refine ck_get (v := .int (nI nc)) hx hb hts hinX5 hown hK hW (hM.n 30 (by decide) (by decide)) hM.f30 rfl 6 (by decide) (hts _ (List.mem_of_getElem? (i := 7) rfl)) rfl rfl dX5_record_231 ?_
                      refine lv_icmp_ne (tgt := 273) hx hb dX5_record_234 (by decide) (fun c_234 => absurd (c234) c_234) (fun _ => ?_)
                      refine lv_aload_n hx hb dX5_record_237 rfl (lv_at hl 2 rfl) ?_
                      refine ck_get (v := .ref (ad 36)) hx hb hts hinX5 hown hK hW (hM.n 30 (by decide) (by decide)) hM.f30 rfl 7 (by decide) (hts _ (List.mem_of_getElem? (i := 8) rfl)) rfl rfl dX5_record_238 ?_
                      refine lv_iload hx hb dX5_record_241 (lv_at hl 0 rfl) ?_
                      refine lv_iload_n hx hb dX5_record_243 rfl (lv_at hl 5 rfl) ?_
                      refine ck_pc (q := 244) rfl ?_
                      refine ck_iast hx hb hK hW hS (hM.n 36 (by decide) (by decide)) hM.f36 j0 (rfl) (by omega) (by decide) dX5_record_244 (fun H locs hW hS hz244 => ?_)
                      obtain ⟨F_244, hFe244, hFo244, hW⟩ := ck_name hW
                      have hM := hM.set36 (x := (upd ((V 0)) j0 a2)) hFe244 hFo244
                      have hsm := hsm.put (by decide) hFo244
                      have hKK := hKK0.keep hS.2.1
                      refine lv_aload_n hx hb dX5_record_245 rfl (lv_at hl 2 rfl) ?_
                      refine ck_get (v := .ref (ad 37)) hx hb hts hinX5 hown hK hW (hM.n 30 (by decide) (by decide)) hM.f30 rfl 8 (by decide) (hts _ (List.mem_of_getElem? (i := 9) rfl)) rfl rfl dX5_record_246 ?_
                      refine lv_iload hx hb dX5_record_249 (lv_at hl 0 rfl) ?_
                      refine lv_iload hx hb dX5_record_251 (lv_at hl 6 rfl) ?_
                      refine ck_iast hx hb hK hW hS (hM.n 37 (by decide) (by decide)) hM.f37 j0 (rfl) (by omega) (by decide) dX5_record_253 (fun H locs hW hS hz253 => ?_)
                      obtain ⟨F_253, hFe253, hFo253, hW⟩ := ck_name hW
                      have hM := hM.set37 (x := (upd ((V 1)) j0 a3)) hFe253 hFo253
                      have hsm := hsm.put (by decide) hFo253
                      have hKK := hKK0.keep hS.2.1
                      refine lv_aload_n hx hb dX5_record_254 rfl (lv_at hl 2 rfl) ?_
                      refine ck_get (v := .ref (ad 38)) hx hb hts hinX5 hown hK hW (hM.n 30 (by decide) (by decide)) hM.f30 rfl 9 (by decide) (hts _ (List.mem_of_getElem? (i := 10) rfl)) rfl rfl dX5_record_255 ?_
                      refine ck_pc (q := 258) rfl ?_
                      refine lv_iload hx hb dX5_record_258 (lv_at hl 0 rfl) ?_
                      refine lv_iload hx hb dX5_record_260 (lv_at hl 7 rfl) ?_
                      refine ck_iast hx hb hK hW hS (hM.n 38 (by decide) (by decide)) hM.f38 j0 (rfl) (by omega) (by decide) dX5_record_262 (fun H locs hW hS hz262 => ?_)
                      obtain ⟨F_262, hFe262, hFo262, hW⟩ := ck_name hW
                      have hM := hM.set38 (x := (upd ((V 2)) j0 a4)) hFe262 hFo262
                      have hsm := hsm.put (by decide) hFo262
                      have hKK := hKK0.keep hS.2.1
                      refine lv_aload_n hx hb dX5_record_263 rfl (lv_at hl 2 rfl) ?_
                      refine lv_dup hx hb dX5_record_264 rfl ?_
                      refine ck_get (v := .int (nI nc)) hx hb hts hinX5 hown hK hW (hM.n 30 (by decide) (by decide)) hM.f30 rfl 6 (by decide) (hts _ (List.mem_of_getElem? (i := 7) rfl)) rfl rfl dX5_record_265 ?_
                      refine lv_iconst (v := 1) hx hb dX5_record_268 (by decide) ?_
                      refine lv_iadd hx hb dX5_record_269 ?_
                      refine lv_topi (fun y9 ey9 => ?_)
                      have ey8 : y9 = nI (nc + 1) := ey9.trans (nI_1 nc)
                      subst ey8
                      refine ck_pc (q := 270) rfl ?_
                      refine ck_put (v := .int (nI (nc + 1))) (ty := .int) hx hb hts hinX5 tyX5 tyX5_ok nmX5 hown hK hW hS (hM.n 30 (by decide) (by decide)) hM.f30 rfl 6 (by decide) (hts _ (List.mem_of_getElem? (i := 7) rfl)) rfl rfl (by decide +kernel) rfl rfl (Nat.le_of_ble_eq_true rfl) dX5_record_270 (fun H locs hW hS hz270 => ?_)
                      obtain ⟨F_270, hFe270, hFo270, hW⟩ := ck_name hW
                      have hM := hM.set30 (nc1 := nc + 1) hFe270 hFo270 (by omega) hM.nr rfl rfl
                      have hsm := hsm.put (by decide) hFo270
                      have hKK := hKK0.keep hS.2.1
                      refine lv_aload_n hx hb dX5_record_273 rfl (lv_at hl 2 rfl) ?_
                      refine ck_get (v := .ref (ad 40)) hx hb hts hinX5 hown hK hW (hM.n 30 (by decide) (by decide)) hM.f30 rfl 11 (by decide) (hts _ (List.mem_of_getElem? (i := 11) rfl)) rfl rfl dX5_record_274 ?_
                      refine lv_iload hx hb dX5_record_277 (lv_at hl 0 rfl) ?_
                      refine lv_dup2_11 hx hb dX5_record_279 rfl rfl ?_
                      refine ck_iald hx hb hK hW (hM.n 40 (by decide) (by decide)) hM.f40 j0 (rfl) (by omega) (by decide) dX5_record_280 ?_
                      refine lv_iconst (v := 1) hx hb dX5_record_281 (by decide) ?_
                      refine lv_iload_n hx hb dX5_record_282 rfl (lv_at hl 3 rfl) ?_
                      refine ck_pc (q := 283) rfl ?_
                      refine lv_ishl hx hb dX5_record_283 ?_
                      refine lv_iadd hx hb dX5_record_284 ?_
                      refine lv_topi (fun y9 ey9 => ?_)
                      have ey8 : y9 = ck_leg (V 3 j0) (nI q) := ey9.trans (hleg)
                      subst ey8
                      refine ck_iast hx hb hK hW hS (hM.n 40 (by decide) (by decide)) hM.f40 j0 (rfl) (by omega) (by decide) dX5_record_285 (fun H locs hW hS hz285 => ?_)
                      obtain ⟨F_285, hFe285, hFo285, hW⟩ := ck_name hW
                      have hM := hM.set40 (x := (upd ((V 3)) j0 ((ck_leg (V 3 j0) (nI q))))) hFe285 hFo285
                      have hsm := hsm.put (by decide) hFo285
                      have hKK := hKK0.keep hS.2.1
                      refine lv_aload_n hx hb dX5_record_286 rfl (lv_at hl 2 rfl) ?_
                      refine ck_get (v := .ref (ad 39)) hx hb hts hinX5 hown hK hW (hM.n 30 (by decide) (by decide)) hM.f30 rfl 10 (by decide) (hts _ (List.mem_of_getElem? (i := 12) rfl)) rfl rfl dX5_record_287 ?_
                      refine lv_iload hx hb dX5_record_290 (lv_at hl 0 rfl) ?_
                      refine ck_joinW (to := 316) (x := ck_max (V 4 j0) a4) (st := [.int (nI j0), .ref (ad 39)]) ?_ ?_
                      · skip
                        refine ck_iast hx hb hK hW hS (hM.n 39 (by decide) (by decide)) hM.f39 j0 (rfl) (by omega) (by decide) dX5_record_316 (fun H locs hW hS hz316 => ?_)
                        obtain ⟨F_316, hFe316, hFo316, hW⟩ := ck_name hW
                        have hM := hM.set39 (x := (upd ((V 4)) j0 ((ck_max (V 4 j0) a4)))) hFe316 hFo316
                        have hsm := hsm.put (by decide) hFo316
                        have hKK := hKK0.keep hS.2.1
                        refine lv_iload hx hb dX5_record_317 (lv_at hl 0 rfl) ?_
                        refine ck_pc (q := 319) rfl ?_
                        exact W.iret (v := (nI j0)) hx hb hr (fun t ht hW9 => ⟨⟨_, rfl, by rw [ht]; exact ⟨_, _, _, _, F_316, Or.inr ⟨⟨h_4, h_15, h_22, h_33, h_45⟩, q, s0, hq, hs1, rfl, rfl, Or.inr ⟨hd, j0, hj0, Or.inr (Or.inl ⟨hj60, hjn0, rfl, rfl, rfl, rfl, rfl⟩)⟩⟩, hW, hM, hsm⟩⟩, hS.F ht⟩) hS.2.2 dX5_record_319
                      · intro J316
                        refine lv_iload hx hb dX5_record_292 (lv_at hl 7 rfl) ?_
                        refine lv_aload_n hx hb dX5_record_294 rfl (lv_at hl 2 rfl) ?_
                        refine ck_pc (q := 295) rfl ?_
                        refine ck_get (v := .ref (ad 39)) hx hb hts hinX5 hown hK hW (hM.n 30 (by decide) (by decide)) hM.f30 rfl 10 (by decide) (hts _ (List.mem_of_getElem? (i := 12) rfl)) rfl rfl dX5_record_295 ?_
                        refine lv_iload hx hb dX5_record_298 (lv_at hl 0 rfl) ?_
                        refine ck_iald hx hb hK hW (hM.n 39 (by decide) (by decide)) hM.f39 j0 (rfl) (by omega) (by decide) dX5_record_300 ?_
                        refine lv_icmp_le (tgt := 309) hx hb dX5_record_301 (by decide) (fun c_301 => ?_) (fun c_301 => ?_)
                        · skip
                          refine lv_aload_n hx hb dX5_record_309 rfl (lv_at hl 2 rfl) ?_
                          refine ck_get (v := .ref (ad 39)) hx hb hts hinX5 hown hK hW (hM.n 30 (by decide) (by decide)) hM.f30 rfl 10 (by decide) (hts _ (List.mem_of_getElem? (i := 12) rfl)) rfl rfl dX5_record_310 ?_
                          refine lv_iload hx hb dX5_record_313 (lv_at hl 0 rfl) ?_
                          refine ck_iald hx hb hK hW (hM.n 39 (by decide) (by decide)) hM.f39 j0 (rfl) (by omega) (by decide) dX5_record_315 ?_
                          exact J316 _ ((if_neg (Int32.not_lt.mpr c_301)).symm)
                        · skip
                          refine lv_iload hx hb dX5_record_304 (lv_at hl 7 rfl) ?_
                          refine lv_goto (tgt := 316) hx hb dX5_record_306 (by decide) ?_
                          exact J316 _ ((if_pos (Int32.not_le.mp c_301)).symm)
                  · intro J217
                    refine lv_aload_n hx hb dX5_record_188 rfl (lv_at hl 2 rfl) ?_
                    refine ck_pc (q := 189) rfl ?_
                    refine ck_get (v := .ref (ad 32)) hx hb hts hinX5 hown hK hW (hM.n 30 (by decide) (by decide)) hM.f30 rfl 2 (by decide) (hts _ (List.mem_of_getElem? (i := 5) rfl)) rfl rfl dX5_record_189 ?_
                    refine lv_iload_n hx hb dX5_record_192 rfl (lv_at hl 3 rfl) ?_
                    refine ck_iald hx hb hK hW (hM.n 32 (by decide) (by decide)) hM.f32 q (rfl) (by omega) (by decide) dX5_record_193 ?_
                    refine lv_if_eq (tgt := 207) hx hb dX5_record_194 (by decide) (fun c_194 => ?_) (fun c_194 => ?_)
                    · skip
                      refine lv_iload_n hx hb dX5_record_207 rfl (lv_at hl 4 rfl) ?_
                      refine lv_goto (tgt := 217) hx hb dX5_record_208 (by decide) ?_
                      exact J217 _ ((if_pos (Or.inl c_194)).symm)
                    · skip
                      refine lv_iload_n hx hb dX5_record_197 rfl (lv_at hl 4 rfl) ?_
                      refine lv_aload_n hx hb dX5_record_198 rfl (lv_at hl 2 rfl) ?_
                      refine ck_get (v := .ref (ad 34)) hx hb hts hinX5 hown hK hW (hM.n 30 (by decide) (by decide)) hM.f30 rfl 4 (by decide) (hts _ (List.mem_of_getElem? (i := 6) rfl)) rfl rfl dX5_record_199 ?_
                      refine lv_iload_n hx hb dX5_record_202 rfl (lv_at hl 3 rfl) ?_
                      refine ck_pc (q := 203) rfl ?_
                      refine ck_iald hx hb hK hW (hM.n 34 (by decide) (by decide)) hM.f34 q (rfl) (by omega) (by decide) dX5_record_203 ?_
                      refine lv_icmp_le (tgt := 211) hx hb dX5_record_204 (by decide) (fun c_204 => ?_) (fun c_204 => ?_)
                      · skip
                        refine lv_aload_n hx hb dX5_record_211 rfl (lv_at hl 2 rfl) ?_
                        refine ck_get (v := .ref (ad 34)) hx hb hts hinX5 hown hK hW (hM.n 30 (by decide) (by decide)) hM.f30 rfl 4 (by decide) (hts _ (List.mem_of_getElem? (i := 6) rfl)) rfl rfl dX5_record_212 ?_
                        refine lv_iload_n hx hb dX5_record_215 rfl (lv_at hl 3 rfl) ?_
                        refine ck_iald hx hb hK hW (hM.n 34 (by decide) (by decide)) hM.f34 q (rfl) (by omega) (by decide) dX5_record_216 ?_
                        exact J217 _ ((if_neg (fun z => z.elim c_194 (Int32.not_lt.mpr c_204))).symm)
                      · skip
                        refine lv_iload_n hx hb dX5_record_207 rfl (lv_at hl 4 rfl) ?_
                        refine lv_goto (tgt := 217) hx hb dX5_record_208 (by decide) ?_
                        exact J217 _ ((if_pos (Or.inr (Int32.not_le.mp c_204))).symm)
                · intro J182
                  refine lv_aload_n hx hb dX5_record_153 rfl (lv_at hl 2 rfl) ?_
                  refine ck_get (v := .ref (ad 32)) hx hb hts hinX5 hown hK hW (hM.n 30 (by decide) (by decide)) hM.f30 rfl 2 (by decide) (hts _ (List.mem_of_getElem? (i := 5) rfl)) rfl rfl dX5_record_154 ?_
                  refine lv_iload_n hx hb dX5_record_157 rfl (lv_at hl 3 rfl) ?_
                  refine ck_iald hx hb hK hW (hM.n 32 (by decide) (by decide)) hM.f32 q (rfl) (by omega) (by decide) dX5_record_158 ?_
                  refine lv_if_eq (tgt := 172) hx hb dX5_record_159 (by decide) (fun c_159 => ?_) (fun c_159 => ?_)
                  · skip
                    refine ck_pc (q := 172) rfl ?_
                    refine lv_iload_n hx hb dX5_record_172 rfl (lv_at hl 4 rfl) ?_
                    refine lv_goto (tgt := 182) hx hb dX5_record_173 (by decide) ?_
                    exact J182 _ ((if_pos (Or.inl c_159)).symm)
                  · skip
                    refine ck_pc (q := 162) rfl ?_
                    refine lv_iload_n hx hb dX5_record_162 rfl (lv_at hl 4 rfl) ?_
                    refine lv_aload_n hx hb dX5_record_163 rfl (lv_at hl 2 rfl) ?_
                    refine ck_get (v := .ref (ad 33)) hx hb hts hinX5 hown hK hW (hM.n 30 (by decide) (by decide)) hM.f30 rfl 3 (by decide) (hts _ (List.mem_of_getElem? (i := 4) rfl)) rfl rfl dX5_record_164 ?_
                    refine lv_iload_n hx hb dX5_record_167 rfl (lv_at hl 3 rfl) ?_
                    refine ck_iald hx hb hK hW (hM.n 33 (by decide) (by decide)) hM.f33 q (rfl) (by omega) (by decide) dX5_record_168 ?_
                    refine lv_icmp_ge (tgt := 176) hx hb dX5_record_169 (by decide) (fun c_169 => ?_) (fun c_169 => ?_)
                    · skip
                      refine lv_aload_n hx hb dX5_record_176 rfl (lv_at hl 2 rfl) ?_
                      refine ck_get (v := .ref (ad 33)) hx hb hts hinX5 hown hK hW (hM.n 30 (by decide) (by decide)) hM.f30 rfl 3 (by decide) (hts _ (List.mem_of_getElem? (i := 4) rfl)) rfl rfl dX5_record_177 ?_
                      refine ck_pc (q := 180) rfl ?_
                      refine lv_iload_n hx hb dX5_record_180 rfl (lv_at hl 3 rfl) ?_
                      refine ck_iald hx hb hK hW (hM.n 33 (by decide) (by decide)) hM.f33 q (rfl) (by omega) (by decide) dX5_record_181 ?_
                      exact J182 _ ((if_neg (fun z => z.elim c_159 (Int32.not_lt.mpr c_169))).symm)
                    · skip
                      refine lv_iload_n hx hb dX5_record_172 rfl (lv_at hl 4 rfl) ?_
                      refine lv_goto (tgt := 182) hx hb dX5_record_173 (by decide) ?_
                      exact J182 _ ((if_pos (Or.inr (Int32.not_le.mp c_169))).symm)
              · skip
                refine lv_aload_n hx hb dX5_record_126 rfl (lv_at hl 2 rfl) ?_
                refine lv_iconst (v := 2) hx hb dX5_record_127 (by decide) ?_
                refine ck_cVw (As := [.int 2]) (rest := []) ⟨hx, hb, hml, hown, hts⟩ hKK (ct_X5_fails l G H ad N F_56 hW V L nc nr 0 hM 2) (cwV 1 hts gX5_record_X5_fails rfl rfl rfl (by decide +kernel) ⟨Nat.le_of_ble_eq_true rfl, Nat.le_of_ble_eq_true rfl⟩) (ck_recv hK hW (hM.n 30 (by decide) (by decide)) hM.f30 rfl) rfl hl rfl (Nat.le_of_ble_eq_true rfl) dX5_record_128 ⟨Nat.le_of_ble_eq_true rfl, Nat.le_of_ble_eq_true rfl⟩ hS (fun r_128 H locs h_128 hz_128 hS => ?_)
                have hKK := hKK0.keep hS.2.1
                obtain ⟨rfl, F_128, hW, hM, hs128⟩ := h_128
                have hsm := hsm.tr hs128
                obtain ⟨fd, hM31, hfd⟩ := hM.f31
                exact W.iret (v := 0) hx hb hr (fun t ht hW9 => ⟨⟨_, rfl, by rw [ht]; exact ⟨_, _, _, _, F_128, Or.inr ⟨⟨h_4, h_15, h_22, h_33, h_45⟩, q, s0, hq, hs1, rfl, rfl, Or.inr ⟨hd, j0, hj0, Or.inl ⟨(nI_eq (by omega) (by decide)).mp c_123, rfl, rfl, rfl, rfl⟩⟩⟩, hW, hM, hsm⟩⟩, hS.F ht⟩) hS.2.2 dX5_record_131
            · skip
              have c92 : ((lg_cmp ((((((fd (157 * q + s0 / 64))) >>> (((((nI s0)) - ((nI s0)) / 64 * 64) : Int32).toInt64 &&& 63))) &&& 1)) 1)) = 0 := (ck_cmp1 _ _).mpr (by rw [hfd0]; exact (ck_has _ hs1).mpr hd)
              refine lv_if_ne (tgt := 107) hx hb dX5_record_92 (by decide) (fun c_92 => absurd (c92) c_92) (fun _ => ?_)
              refine lv_aload_n hx hb dX5_record_95 rfl (lv_at hl 1 rfl) ?_
              refine ck_get (v := .ref (ad 35)) hx hb hts hinX5 hown hK hW (hM.n 30 (by decide) (by decide)) hM.f30 rfl 5 (by decide) (hts _ (List.mem_of_getElem? (i := 3) rfl)) rfl rfl dX5_record_96 ?_
              refine lv_iload_n hx hb dX5_record_99 rfl (lv_at hl 2 rfl) ?_
              refine lv_dup2_11 hx hb dX5_record_100 rfl rfl ?_
              refine ck_iald hx hb hK hW (hM.n 35 (by decide) (by decide)) hM.f35 q (rfl) (by omega) (by decide) dX5_record_101 ?_
              refine lv_iconst (v := 1) hx hb dX5_record_102 (by decide) ?_
              refine ck_pc (q := 103) rfl ?_
              refine lv_iadd hx hb dX5_record_103 ?_
              refine ck_iast hx hb hK hW hS (hM.n 35 (by decide) (by decide)) hM.f35 q (rfl) (by omega) (by decide) dX5_record_104 (fun H locs hW hS hz104 => ?_)
              obtain ⟨F_104, hFe104, hFo104, hW⟩ := ck_name hW
              have hM := hM.set35 (x := (upd ((V 15)) q ((((((V 15)) q)) + 1)))) hFe104 hFo104
              have hsm := hsm.put (by decide) hFo104
              have hKK := hKK0.keep hS.2.1
              refine lv_iconst (v := (-1)) hx hb dX5_record_105 (by decide) ?_
              exact W.iret (v := (-1)) hx hb hr (fun t ht hW9 => ⟨⟨_, rfl, by rw [ht]; exact ⟨_, _, _, _, F_104, Or.inr ⟨⟨h_4, h_15, h_22, h_33, h_45⟩, q, s0, hq, hs1, rfl, rfl, Or.inl ⟨hd, rfl, rfl, rfl, rfl, rfl⟩⟩, hW, hM, hsm⟩⟩, hS.F ht⟩) hS.2.2 dX5_record_106
          · skip
            refine ck_pc (q := 48) rfl ?_
            refine lv_if_eq (tgt := 55) hx hb dX5_record_48 (by decide) (fun _ => ?_) (fun c_48 => absurd (by decide) c_48)
            refine lv_iconst (v := 0) hx hb dX5_record_55 (by decide) ?_
            refine ck_cVw (As := [.int 0]) (rest := []) ⟨hx, hb, hml, hown, hts⟩ hKK (ct_X5_asks0 l G s.heap ad N F hW V L nc nr t hM) (cwV 1 hts gX5_record_X5_asks rfl rfl rfl (by decide +kernel) ⟨Nat.le_of_ble_eq_true rfl, Nat.le_of_ble_eq_true rfl⟩) (ck_recv hK hW (hM.n 30 (by decide) (by decide)) hM.f30 rfl) rfl hl rfl (Nat.le_of_ble_eq_true rfl) dX5_record_56 ⟨Nat.le_of_ble_eq_true rfl, Nat.le_of_ble_eq_true rfl⟩ hS (fun r_56 H locs h_56 hz_56 hS => ?_)
            have hKK := hKK0.keep hS.2.1
            obtain ⟨rfl, F_56, hW, hM, hs56⟩ := h_56
            have hsm := hsm.tr hs56
            refine lv_if_ne (tgt := 64) hx hb dX5_record_59 (by decide) (fun c_59 => absurd (by decide) c_59) (fun _ => ?_)
            refine lv_iconst (v := 0) hx hb dX5_record_62 (by decide) ?_
            exact W.iret (v := 0) hx hb hr (fun t ht hW9 => ⟨⟨_, rfl, by rw [ht]; exact ⟨_, _, _, _, F_56, Or.inl ⟨fun z => h_45 z.2.2.2.2, rfl, rfl, rfl, rfl⟩, hW, hM, hsm⟩⟩, hS.F ht⟩) hS.2.2 dX5_record_63
        · skip
          refine lv_if_eq (tgt := 55) hx hb dX5_record_36 (by decide) (fun _ => ?_) (fun c_36 => absurd (by decide) c_36)
          refine lv_iconst (v := 0) hx hb dX5_record_55 (by decide) ?_
          refine ck_cVw (As := [.int 0]) (rest := []) ⟨hx, hb, hml, hown, hts⟩ hKK (ct_X5_asks0 l G s.heap ad N F hW V L nc nr t hM) (cwV 1 hts gX5_record_X5_asks rfl rfl rfl (by decide +kernel) ⟨Nat.le_of_ble_eq_true rfl, Nat.le_of_ble_eq_true rfl⟩) (ck_recv hK hW (hM.n 30 (by decide) (by decide)) hM.f30 rfl) rfl hl rfl (Nat.le_of_ble_eq_true rfl) dX5_record_56 ⟨Nat.le_of_ble_eq_true rfl, Nat.le_of_ble_eq_true rfl⟩ hS (fun r_56 H locs h_56 hz_56 hS => ?_)
          have hKK := hKK0.keep hS.2.1
          obtain ⟨rfl, F_56, hW, hM, hs56⟩ := h_56
          have hsm := hsm.tr hs56
          refine lv_if_ne (tgt := 64) hx hb dX5_record_59 (by decide) (fun c_59 => absurd (by decide) c_59) (fun _ => ?_)
          refine lv_iconst (v := 0) hx hb dX5_record_62 (by decide) ?_
          refine ck_pc (q := 63) rfl ?_
          exact W.iret (v := 0) hx hb hr (fun t ht hW9 => ⟨⟨_, rfl, by rw [ht]; exact ⟨_, _, _, _, F_56, Or.inl ⟨fun z => h_33 z.2.2.2.1, rfl, rfl, rfl, rfl⟩, hW, hM, hsm⟩⟩, hS.F ht⟩) hS.2.2 dX5_record_63
      · skip
        refine lv_if_eq (tgt := 55) hx hb dX5_record_25 (by decide) (fun _ => ?_) (fun c_25 => absurd (by decide) c_25)
        refine lv_iconst (v := 0) hx hb dX5_record_55 (by decide) ?_
        refine ck_pc (q := 56) rfl ?_
        refine ck_cVw (As := [.int 0]) (rest := []) ⟨hx, hb, hml, hown, hts⟩ hKK (ct_X5_asks0 l G s.heap ad N F hW V L nc nr t hM) (cwV 1 hts gX5_record_X5_asks rfl rfl rfl (by decide +kernel) ⟨Nat.le_of_ble_eq_true rfl, Nat.le_of_ble_eq_true rfl⟩) (ck_recv hK hW (hM.n 30 (by decide) (by decide)) hM.f30 rfl) rfl hl rfl (Nat.le_of_ble_eq_true rfl) dX5_record_56 ⟨Nat.le_of_ble_eq_true rfl, Nat.le_of_ble_eq_true rfl⟩ hS (fun r_56 H locs h_56 hz_56 hS => ?_)
        have hKK := hKK0.keep hS.2.1
        obtain ⟨rfl, F_56, hW, hM, hs56⟩ := h_56
        have hsm := hsm.tr hs56
        refine lv_if_ne (tgt := 64) hx hb dX5_record_59 (by decide) (fun c_59 => absurd (by decide) c_59) (fun _ => ?_)
        refine lv_iconst (v := 0) hx hb dX5_record_62 (by decide) ?_
        exact W.iret (v := 0) hx hb hr (fun t ht hW9 => ⟨⟨_, rfl, by rw [ht]; exact ⟨_, _, _, _, F_56, Or.inl ⟨fun z => h_22 z.2.2.1, rfl, rfl, rfl, rfl⟩, hW, hM, hsm⟩⟩, hS.F ht⟩) hS.2.2 dX5_record_63
    · skip
      refine lv_if_eq (tgt := 55) hx hb dX5_record_18 (by decide) (fun _ => ?_) (fun c_18 => absurd (by decide) c_18)
      refine lv_iconst (v := 0) hx hb dX5_record_55 (by decide) ?_
      refine ck_cVw (As := [.int 0]) (rest := []) ⟨hx, hb, hml, hown, hts⟩ hKK (ct_X5_asks0 l G s.heap ad N F hW V L nc nr t hM) (cwV 1 hts gX5_record_X5_asks rfl rfl rfl (by decide +kernel) ⟨Nat.le_of_ble_eq_true rfl, Nat.le_of_ble_eq_true rfl⟩) (ck_recv hK hW (hM.n 30 (by decide) (by decide)) hM.f30 rfl) rfl hl rfl (Nat.le_of_ble_eq_true rfl) dX5_record_56 ⟨Nat.le_of_ble_eq_true rfl, Nat.le_of_ble_eq_true rfl⟩ hS (fun r_56 H locs h_56 hz_56 hS => ?_)
      have hKK := hKK0.keep hS.2.1
      obtain ⟨rfl, F_56, hW, hM, hs56⟩ := h_56
      have hsm := hsm.tr hs56
      refine lv_if_ne (tgt := 64) hx hb dX5_record_59 (by decide) (fun c_59 => absurd (by decide) c_59) (fun _ => ?_)
      refine lv_iconst (v := 0) hx hb dX5_record_62 (by decide) ?_
      refine ck_pc (q := 63) rfl ?_
      exact W.iret (v := 0) hx hb hr (fun t ht hW9 => ⟨⟨_, rfl, by rw [ht]; exact ⟨_, _, _, _, F_56, Or.inl ⟨fun z => h_15 z.2.1, rfl, rfl, rfl, rfl⟩, hW, hM, hsm⟩⟩, hS.F ht⟩) hS.2.2 dX5_record_63
  · skip
    refine lv_if_eq (tgt := 55) hx hb dX5_record_7 (by decide) (fun _ => ?_) (fun c_7 => absurd (by decide) c_7)
    refine lv_iconst (v := 0) hx hb dX5_record_55 (by decide) ?_
    refine ck_pc (q := 56) rfl ?_
    refine ck_cVw (As := [.int 0]) (rest := []) ⟨hx, hb, hml, hown, hts⟩ hKK (ct_X5_asks0 l G s.heap ad N F hW V L nc nr t hM) (cwV 1 hts gX5_record_X5_asks rfl rfl rfl (by decide +kernel) ⟨Nat.le_of_ble_eq_true rfl, Nat.le_of_ble_eq_true rfl⟩) (ck_recv hK hW (hM.n 30 (by decide) (by decide)) hM.f30 rfl) rfl hl rfl (Nat.le_of_ble_eq_true rfl) dX5_record_56 ⟨Nat.le_of_ble_eq_true rfl, Nat.le_of_ble_eq_true rfl⟩ hS (fun r_56 H locs h_56 hz_56 hS => ?_)
    have hKK := hKK0.keep hS.2.1
    obtain ⟨rfl, F_56, hW, hM, hs56⟩ := h_56
    have hsm := hsm.tr hs56
    refine lv_if_ne (tgt := 64) hx hb dX5_record_59 (by decide) (fun c_59 => absurd (by decide) c_59) (fun _ => ?_)
    refine lv_iconst (v := 0) hx hb dX5_record_62 (by decide) ?_
    exact W.iret (v := 0) hx hb hr (fun t ht hW9 => ⟨⟨_, rfl, by rw [ht]; exact ⟨_, _, _, _, F_56, Or.inl ⟨fun z => h_4 z.1, rfl, rfl, rfl, rfl⟩, hW, hM, hsm⟩⟩, hS.F ht⟩) hS.2.2 dX5_record_63
