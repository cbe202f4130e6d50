/-- where a method of the class has thrown: the class of what was thrown, the world as it was -/
def ck_Xc (G : ck_G) (P : String → Prop) (ad : Nat → Nat) (N : Nat → Prop) (F : Nat → va_E) : String → State → State → Prop := vx_X (fun _ : Unit => True) (fun E _ t => P E ∧ ck_W G ad N F t.heap) (ck_A G)
def ck_ex1 (A : String) (k : Int32) (E : String) : Prop := k = 1 ∧ E = A
def ck_ex2 (A B : String) (k : Int32) (E : String) : Prop := (k = 1 ∧ E = A) ∨ (k = 2 ∧ E = B)
section CKX
variable {p : Program} {l : Launch} {e : Env} {R : Room} {s : State} {m : MethodId} {args : Array Value} {below : List Frame} {meth : Method} {c : Code} {H : Heap} {locs : List Loc} {cells slots : Nat}
variable {Qc : Array Value → State → Outcome → State → Prop} {rest : List Value} {ls : Array Slot} {G : ck_G} {ad : Nat → Nat} {N : Nat → Prop} {F : Nat → va_E} {mc ms : Nat}
theorem ck_throw {cc : ByteArray} {pc : Nat} (hexec : p.tables.exec = Jvm.exec) (hb : c.code = cc) (hl : l.stackTraces = false) (hown : s.vm.findClass RX4 = some m.cls) {cls text : String} {ik is ic : Nat} (hKK : ck_K G s.heap s)
    (hcls : Bundle.fit cls = true) (hnames : ∀ n ∈ ["java/lang/RuntimeException", "java/lang/Exception"], Bundle.fit n = true) (hk : (Cond.classLink RX4 ik cls).before args s = true) (hini : (Cond.initialized cls).before args s = true) (hstr : (is, text) ∈ ck_strs) (hexc : cls ∈ ck_exc)
    (hg : ∀ w ∈ (vx_atS RX4 ic cls ["java/lang/RuntimeException", "java/lang/Exception"]).filter goodWord, w.before args s = true) (hng : ∀ w ∈ (vx_atS RX4 ic cls ["java/lang/RuntimeException", "java/lang/Exception"]).filter (fun w => !goodWord w), w ∈ Cond.castable cls cls :: ck_decl.map Cond.declares)
    (hgood : ∀ w ∈ Cond.classLink RX4 ik cls :: Cond.initialized cls :: vx_atS RX4 ic cls ["java/lang/RuntimeException", "java/lang/Exception"], vx_ot w = true) (hS : va_S (ck_A G) s.heap H locs) (hsize : ls.size = c.maxLocals)
    (d0 : decode cc pc = .ok (.new ik, 3)) (d3 : decode cc (pc + 3) = .ok (.dup, 1)) (d4 : decode cc (pc + 4) = .ok (.ldc is, 2)) (d6 : decode cc (pc + 6) = .ok (.invokespecial ic, 3)) (d9 : decode cc (pc + 9) = .ok (.athrow, 1))
    (hnx : ∀ x ∈ c.exceptionTable.toList, False) (hRframes : 5 < R.frames) (hRlocals : (rest.map fun v => v.category).sum + 82 ≤ R.locals) (hRcells : cells + 1 ≤ R.cells) (hRslots : slots + 6 ≤ R.slots) (hlocks : meth.locks = false)
    (hc : cells + 1 ≤ mc) (hs : slots + 6 ≤ ms) (hW : ck_W G ad N F H) {P : String → Prop} (hP : P cls) :
    W p l e R s m args below meth c H locs cells slots (vx_MQ below Qc (ck_Xc G P ad N F) args s mc ms (ck_A G)) (F0 m pc ls rest) :=
  vx_throwS hexec hb hl hown hcls hnames hk hini (hKK.1.2.1 _ hstr) (vx_hat hg hng (vx_c ((hKK.1.2.2.2.1.1 _ hexc).use rfl) (fun w hw => by obtain ⟨y, hy, rfl⟩ := List.mem_map.mp hw; exact (hKK.1.2.2.2.1.2 y hy).use rfl))) hgood hKK.2.1 hKK.2.2 hS hsize d0 d3 d4 d6 d9 (fun x hx => (hnx x hx).elim) hRframes hRlocals hRcells hRslots hlocks
    (fun t _ hz hk => ⟨(), trivial, ⟨hP, hW.kept hk⟩, ⟨Nat.le_trans hS.1 hz, fun q h1 h2 => (hk q (Nat.lt_of_lt_of_le h1 hS.1)).trans (hS.2.1 q h1 h2)⟩⟩) hS.2.2 hc hs
/-- the same for NoSuchElementException, whose constructor passes on by another index -/
theorem ck_throwN {cc : ByteArray} {pc : Nat} (hexec : p.tables.exec = Jvm.exec) (hb : c.code = cc) (hl : l.stackTraces = false) (hown : s.vm.findClass RX4 = some m.cls) {cls text : String} {ik is ic : Nat} (hKK : ck_K G s.heap s)
    (hcls : Bundle.fit cls = true) (hnames : ∀ n ∈ ["java/lang/RuntimeException", "java/lang/Exception"], Bundle.fit n = true) (hk : (Cond.classLink RX4 ik cls).before args s = true) (hini : (Cond.initialized cls).before args s = true) (hstr : (is, text) ∈ ck_strs) (hexc : cls ∈ ck_exc)
    (hg : ∀ w ∈ (ck_atX RX4 ic cls "java/lang/RuntimeException" ["java/lang/Exception"]).filter goodWord, w.before args s = true) (hng : ∀ w ∈ (ck_atX RX4 ic cls "java/lang/RuntimeException" ["java/lang/Exception"]).filter (fun w => !goodWord w), w ∈ Cond.castable cls cls :: ck_decl.map Cond.declares)
    (hgood : ∀ w ∈ Cond.classLink RX4 ik cls :: Cond.initialized cls :: ck_atX RX4 ic cls "java/lang/RuntimeException" ["java/lang/Exception"], vx_ot w = true) (hS : va_S (ck_A G) s.heap H locs) (hsize : ls.size = c.maxLocals)
    (d0 : decode cc pc = .ok (.new ik, 3)) (d3 : decode cc (pc + 3) = .ok (.dup, 1)) (d4 : decode cc (pc + 4) = .ok (.ldc is, 2)) (d6 : decode cc (pc + 6) = .ok (.invokespecial ic, 3)) (d9 : decode cc (pc + 9) = .ok (.athrow, 1))
    (hnx : ∀ x ∈ c.exceptionTable.toList, False) (hRframes : 5 < R.frames) (hRlocals : (rest.map fun v => v.category).sum + 82 ≤ R.locals) (hRcells : cells + 1 ≤ R.cells) (hRslots : slots + 6 ≤ R.slots) (hlocks : meth.locks = false)
    (hc : cells + 1 ≤ mc) (hs : slots + 6 ≤ ms) (hW : ck_W G ad N F H) {P : String → Prop} (hP : P cls) :
    W p l e R s m args below meth c H locs cells slots (vx_MQ below Qc (ck_Xc G P ad N F) args s mc ms (ck_A G)) (F0 m pc ls rest) :=
  ck_throwX hexec hb hl hown hcls (hnames _ (List.mem_of_getElem? (i := 0) rfl)) (fun n hn => hnames n (List.mem_cons_of_mem _ hn)) hk hini (hKK.1.2.1 _ hstr) (vx_hat hg hng (vx_c ((hKK.1.2.2.2.1.1 _ hexc).use rfl) (fun w hw => by obtain ⟨y, hy, rfl⟩ := List.mem_map.mp hw; exact (hKK.1.2.2.2.1.2 y hy).use rfl))) hgood hKK.2.1 hKK.2.2 hS hsize d0 d3 d4 d6 d9 (fun x hx => (hnx x hx).elim) hRframes hRlocals hRcells hRslots hlocks
    (fun t _ hz hk => ⟨(), trivial, ⟨hP, hW.kept hk⟩, ⟨Nat.le_trans hS.1 hz, fun q h1 h2 => (hk q (Nat.lt_of_lt_of_le h1 hS.1)).trans (hS.2.1 q h1 h2)⟩⟩) hS.2.2 hc hs
end CKX
set_option maxHeartbeats 4000000 in
set_option maxRecDepth 100000 in
theorem ct_X4_setBound (l : Launch) (G : ck_G) (H : Heap) (ad : Nat → Nat) (N : Nat → Prop) (F : Nat → va_E) (hW : ck_W G ad N F H) (V : Nat → Nat → Int32) (L : Nat → Nat → Int64) (nc nr : Nat) (hC : ck_C G ad V L nc nr N F) (hlt : l.stackTraces = false) (a0 : Int32) : vx_Met l yX4_setBound wsX4_setBound ({ frames := 6, cells := 1, slots := 6, locals := 90 }) (ck_P G H [.ref (ad 0), .int a0]) (ck_Qi G (fun r H1 => ∃ V1 F1, ck_Rset V a0 0 r V1 ∧ ck_W G ad N F1 H1 ∧ ck_C G ad V1 L nc nr N F1 ∧ ck_sD F F1)) (ck_Xc G (fun E => ∃ k r, ck_Rset V a0 k r V ∧ ck_ex1 ck_IAE k E) ad N F) 1 6 (ck_A G) := by
  refine vx_ofW (cc := cX4_setBound) (maxL := 3) (ret := (some .int)) (by decide) rfl ?_
  intro p e s m args below meth c s₁ B hml hnx hv
  obtain ⟨rfl, hH, hKK⟩ := hv
  subst hH
  have hx := B.exec
  have hb := B.bytes
  have hr := B.returns
  have hts := atoms_spec (ws := wsX4_setBound) B.pre
  have hown : s.vm.findClass RX4 = some m.cls := findClass_of_methodNamed B.named
  have hlocks := B.notSynchronized
  have hKK0 := hKK
  have hK := hKK.1.1
  have hS : va_S (ck_A G) s.heap s.heap [] := va_S.rf
  have hinX4 : ∀ w ∈ u_ws RX4 TX4 8, w ∈ wsX4_setBound := by decide +kernel
  have hl := lv_entry ([.ref (ad 0), .int a0]) (n := 3) (Nat.le_of_ble_eq_true rfl)
  rw [lg_entry_eq]
  generalize (lg_sl ([.ref (ad 0), .int a0]) ++ List.replicate (3 - (lg_sl ([.ref (ad 0), .int a0])).length) Slot.unset).toArray = ls at hl ⊢
  have hl : lv_has ls 3 [(0, .ref (ad 0)), (1, .int a0)] := hl
  have hsm : ck_sD F F := fun _ _ _ => rfl
  refine lv_iload_n hx hb dX4_setBound_0 rfl (lv_at hl 1 rfl) ?_
  refine lv_iconst (v := 0) hx hb dX4_setBound_1 (by decide) ?_
  refine lv_bipush (v := 100) hx hb dX4_setBound_2 (by decide) ?_
  refine ck_cSi (As := [.int a0, .int 0, .int 100]) (rest := []) ⟨hx, hb, hml, hown, hts⟩ hKK (ct_X4_within l G s.heap a0 0 100) (va_cwS 3 hts gX4_setBound_X4_within rfl rfl rfl (by decide +kernel) ⟨Nat.le_of_ble_eq_true rfl, Nat.le_of_ble_eq_true rfl⟩) rfl hl rfl (Nat.le_of_ble_eq_true rfl) dX4_setBound_4 ⟨Nat.le_of_ble_eq_true rfl, Nat.le_of_ble_eq_true rfl⟩ (fun r_4 h_4 => ?_)
  rcases h_4 with ⟨h_4, rfl⟩ | ⟨h_4, rfl⟩
  · skip
    refine lv_if_ne (tgt := 20) hx hb dX4_setBound_7 (by decide) (fun _ => ?_) (fun c_7 => absurd c_7 (by decide))
    refine lv_aload_n hx hb dX4_setBound_20 rfl (lv_at hl 0 rfl) ?_
    refine ck_get (v := .int (V 13 0)) hx hb hts hinX4 hown hK hW (hC.n 0 (by decide)) hC.f0 rfl 3 (by decide) (hts _ (List.mem_of_getElem? (i := 3) rfl)) rfl rfl dX4_setBound_21 ?_
    refine lv_istore_n (lv' := [(2, .int (V 13 0)), (0, .ref (ad 0)), (1, .int a0)]) hx hb dX4_setBound_24 rfl hl (by decide) rfl (fun ls hl => ?_)
    refine lv_aload_n hx hb dX4_setBound_25 rfl (lv_at hl 1 rfl) ?_
    refine lv_iload_n hx hb dX4_setBound_26 rfl (lv_at hl 2 rfl) ?_
    refine ck_put (v := .int a0) (ty := .int) hx hb hts hinX4 tyX4 tyX4_ok nmX4 hown hK hW hS (hC.n 0 (by decide)) hC.f0 rfl 3 (by decide) (hts _ (List.mem_of_getElem? (i := 3) rfl)) rfl rfl (by decide +kernel) rfl rfl (Nat.le_of_ble_eq_true rfl) dX4_setBound_27 (fun H locs hW hS hz27 => ?_)
    obtain ⟨F_27, hFe27, hFo27, hW⟩ := ck_name hW
    have hC := hC.set13 (g := upd (V 13) 0 a0) rfl rfl hFe27 hFo27
    have hsm := hsm.put (by omega) hFo27
    have hKK := hKK0.keep hS.2.1
    refine lv_iload_n hx hb dX4_setBound_30 rfl (lv_at hl 0 rfl) ?_
    refine W.widen (k := 1) (n := 6) (by decide) (by decide) ?_
    exact vx_ret (W.iret (v := (V 13 0)) hx hb hr (fun t ht hW9 => ⟨⟨_, rfl, by rw [ht]; exact ⟨_, F_27, Or.inr ⟨h_4, rfl, rfl, rfl⟩, hW, hC, hsm⟩⟩, hS.F ht⟩) hS.2.2 dX4_setBound_31)
  · skip
    refine lv_if_ne (tgt := 20) hx hb dX4_setBound_7 (by decide) (fun c_7 => absurd (by decide) c_7) (fun _ => ?_)
    exact ck_throw (cls := "java/lang/IllegalArgumentException") (text := "the bound is out of range") hx hb hlt hown hKK0 (by decide +kernel) (by decide +kernel) (hts _ (List.mem_of_getElem? (i := 1) rfl)) (hts _ (List.mem_of_getElem? (i := 2) rfl)) (List.mem_of_getElem? (i := 0) rfl) (List.mem_of_getElem? (i := 0) rfl) (fun w hw => hts w (List.mem_cons_of_mem _ (List.mem_append.mpr (Or.inr hw)))) (by decide +kernel) (by decide +kernel) hS (hl.1.trans hml.symm) dX4_setBound_10 dX4_setBound_13 dX4_setBound_14 dX4_setBound_16 dX4_setBound_19 hnx (Nat.le_of_ble_eq_true rfl) (Nat.le_of_ble_eq_true rfl) (Nat.le_of_ble_eq_true rfl) (Nat.le_of_ble_eq_true rfl) hlocks (Nat.le_of_ble_eq_true rfl) (Nat.le_of_ble_eq_true rfl) hW (⟨1, 0, Or.inl ⟨h_4, rfl, rfl⟩, ⟨rfl, rfl⟩⟩)
set_option maxHeartbeats 4000000 in
set_option maxRecDepth 100000 in
theorem ct_X4_gaps (l : Launch) (G : ck_G) (H : Heap) (ad : Nat → Nat) (N : Nat → Prop) (F : Nat → va_E) (hW : ck_W G ad N F H) (V : Nat → Nat → Int32) (L : Nat → Nat → Int64) (nc nr : Nat) (hC : ck_C G ad V L nc nr N F) (hlt : l.stackTraces = false) (a0 : Int32) : vx_Met l yX4_gaps wsX4_gaps ({ frames := 6, cells := 1, slots := 6, locals := 90 }) (ck_P G H [.ref (ad 0), .int a0]) (ck_Qi G (fun r H1 => ck_Rgaps (V 14) (V 16) (V 17) a0 0 r ∧ ck_W G ad N F H1)) (ck_Xc G (fun E => ∃ k r, ck_Rgaps (V 14) (V 16) (V 17) a0 k r ∧ ck_ex1 ck_IAE k E) ad N F) 1 6 (ck_A G) := by
  refine vx_ofW (cc := cX4_gaps) (maxL := 3) (ret := (some .int)) (by decide) rfl ?_
  intro p e s m args below meth c s₁ B hml hnx hv
  obtain ⟨rfl, hH, hKK⟩ := hv
  subst hH
  have hx := B.exec
  have hb := B.bytes
  have hr := B.returns
  have hts := atoms_spec (ws := wsX4_gaps) B.pre
  have hown : s.vm.findClass RX4 = some m.cls := findClass_of_methodNamed B.named
  have hlocks := B.notSynchronized
  have hKK0 := hKK
  have hK := hKK.1.1
  have hS : va_S (ck_A G) s.heap s.heap [] := va_S.rf
  have hl := lv_entry ([.ref (ad 0), .int a0]) (n := 3) (Nat.le_of_ble_eq_true rfl)
  rw [lg_entry_eq]
  generalize (lg_sl ([.ref (ad 0), .int a0]) ++ List.replicate (3 - (lg_sl ([.ref (ad 0), .int a0])).length) Slot.unset).toArray = ls at hl ⊢
  have hl : lv_has ls 3 [(0, .ref (ad 0)), (1, .int a0)] := hl
  have hsm : ck_sD F F := fun _ _ _ => rfl
  refine lv_aload_n hx hb dX4_gaps_0 rfl (lv_at hl 0 rfl) ?_
  refine lv_iload_n hx hb dX4_gaps_1 rfl (lv_at hl 1 rfl) ?_
  refine ck_cVq (As := [.int a0]) (rest := []) ⟨hx, hb, hml, hown, hts⟩ hKK (ct_X4_sourceAt l G s.heap ad N F hW V L nc nr hC a0) (cwV 1 hts gX4_gaps_X4_sourceAt rfl rfl rfl (by decide +kernel) ⟨Nat.le_of_ble_eq_true rfl, Nat.le_of_ble_eq_true rfl⟩) (ck_recv hK hW (hC.n 0 (by decide)) hC.f0 rfl) rfl hl rfl (Nat.le_of_ble_eq_true rfl) dX4_gaps_2 ⟨Nat.le_of_ble_eq_true rfl, Nat.le_of_ble_eq_true rfl⟩ (fun r_2 h_2 => ?_)
  rcases h_2 with ⟨j2, hj2, e2, rfl⟩ | ⟨hno2, rfl⟩
  · skip
    refine lv_astore_n (lv' := [(2, .ref (ad (5 + j2))), (0, .ref (ad 0)), (1, .int a0)]) hx hb dX4_gaps_5 rfl hl (by decide) rfl (fun ls hl => ?_)
    refine lv_aload_n hx hb dX4_gaps_6 rfl (lv_at hl 0 rfl) ?_
    refine lv_ifnonnull (tgt := 20) hx hb dX4_gaps_7 (by decide) ?_
    refine lv_aload_n hx hb dX4_gaps_20 rfl (lv_at hl 0 rfl) ?_
    refine ck_cVi (As := []) (rest := []) ⟨hx, hb, hml, hown, hts⟩ hKK (ct_X3_missing l G s.heap ad N F hW (5 + j2) (hC.n (5 + j2) (by omega)) (8 + j2) ((V 14 j2)) ((V 16 j2)) ((V 17 j2)) ((V 15 j2)) (hC.src j2 hj2)) (cwV 0 hts gX4_gaps_X3_missing rfl rfl rfl (by decide +kernel) ⟨Nat.le_of_ble_eq_true rfl, Nat.le_of_ble_eq_true rfl⟩) (ck_recv hK hW (hC.n (5 + j2) (by omega)) (hC.src j2 hj2) rfl) rfl hl rfl (Nat.le_of_ble_eq_true rfl) dX4_gaps_21 ⟨Nat.le_of_ble_eq_true rfl, Nat.le_of_ble_eq_true rfl⟩ (fun r_21 h_21 => ?_)
    subst h_21
    refine W.widen (k := 1) (n := 6) (by decide) (by decide) ?_
    exact vx_ret (W.iret (v := (ck_miss ((V 14 j2)) ((V 16 j2)) ((V 17 j2)))) hx hb hr (fun t ht hW9 => ⟨⟨_, rfl, by rw [ht]; exact ⟨Or.inr ⟨j2, hj2, e2, rfl, rfl⟩, hW⟩⟩, hS.F ht⟩) hS.2.2 dX4_gaps_24)
  · skip
    refine lv_astore_nN (lv' := [(2, .null), (0, .ref (ad 0)), (1, .int a0)]) hx hb dX4_gaps_5 rfl hl (by decide) rfl (fun ls hl => ?_)
    refine lv_aload_nN hx hb dX4_gaps_6 rfl (lv_at hl 0 rfl) ?_
    refine lv_ifnonnullN hx hb dX4_gaps_7 ?_
    exact ck_throw (cls := "java/lang/IllegalArgumentException") (text := "no such switch") hx hb hlt hown hKK0 (by decide +kernel) (by decide +kernel) (hts _ (List.mem_of_getElem? (i := 1) rfl)) (hts _ (List.mem_of_getElem? (i := 2) rfl)) (List.mem_of_getElem? (i := 3) rfl) (List.mem_of_getElem? (i := 0) rfl) (fun w hw => hts w (List.mem_cons_of_mem _ (List.mem_append.mpr (Or.inr hw)))) (by decide +kernel) (by decide +kernel) hS (hl.1.trans hml.symm) dX4_gaps_10 dX4_gaps_13 dX4_gaps_14 dX4_gaps_16 dX4_gaps_19 hnx (Nat.le_of_ble_eq_true rfl) (Nat.le_of_ble_eq_true rfl) (Nat.le_of_ble_eq_true rfl) (Nat.le_of_ble_eq_true rfl) hlocks (Nat.le_of_ble_eq_true rfl) (Nat.le_of_ble_eq_true rfl) hW (⟨1, 0, Or.inl ⟨hno2, rfl⟩, ⟨rfl, rfl⟩⟩)
set_option maxHeartbeats 4000000 in
set_option maxRecDepth 100000 in
theorem ct_X4_doubles (l : Launch) (G : ck_G) (H : Heap) (ad : Nat → Nat) (N : Nat → Prop) (F : Nat → va_E) (hW : ck_W G ad N F H) (V : Nat → Nat → Int32) (L : Nat → Nat → Int64) (nc nr : Nat) (hC : ck_C G ad V L nc nr N F) (hlt : l.stackTraces = false) (a0 : Int32) : vx_Met l yX4_doubles wsX4_doubles ({ frames := 6, cells := 1, slots := 6, locals := 90 }) (ck_P G H [.ref (ad 0), .int a0]) (ck_Qi G (fun r H1 => ck_Rdbl (V 15) a0 0 r ∧ ck_W G ad N F H1)) (ck_Xc G (fun E => ∃ k r, ck_Rdbl (V 15) a0 k r ∧ ck_ex1 ck_IAE k E) ad N F) 1 6 (ck_A G) := by
  refine vx_ofW (cc := cX4_doubles) (maxL := 3) (ret := (some .int)) (by decide) rfl ?_
  intro p e s m args below meth c s₁ B hml hnx hv
  obtain ⟨rfl, hH, hKK⟩ := hv
  subst hH
  have hx := B.exec
  have hb := B.bytes
  have hr := B.returns
  have hts := atoms_spec (ws := wsX4_doubles) B.pre
  have hown : s.vm.findClass RX4 = some m.cls := findClass_of_methodNamed B.named
  have hlocks := B.notSynchronized
  have hKK0 := hKK
  have hK := hKK.1.1
  have hS : va_S (ck_A G) s.heap s.heap [] := va_S.rf
  have hinX3 : ∀ w ∈ u_ws RX3 TX3 5, w ∈ wsX4_doubles := by decide +kernel
  have hl := lv_entry ([.ref (ad 0), .int a0]) (n := 3) (Nat.le_of_ble_eq_true rfl)
  rw [lg_entry_eq]
  generalize (lg_sl ([.ref (ad 0), .int a0]) ++ List.replicate (3 - (lg_sl ([.ref (ad 0), .int a0])).length) Slot.unset).toArray = ls at hl ⊢
  have hl : lv_has ls 3 [(0, .ref (ad 0)), (1, .int a0)] := hl
  have hsm : ck_sD F F := fun _ _ _ => rfl
  refine lv_aload_n hx hb dX4_doubles_0 rfl (lv_at hl 0 rfl) ?_
  refine lv_iload_n hx hb dX4_doubles_1 rfl (lv_at hl 1 rfl) ?_
  refine ck_cVq (As := [.int a0]) (rest := []) ⟨hx, hb, hml, hown, hts⟩ hKK (ct_X4_sourceAt l G s.heap ad N F hW V L nc nr hC a0) (cwV 1 hts gX4_doubles_X4_sourceAt rfl rfl rfl (by decide +kernel) ⟨Nat.le_of_ble_eq_true rfl, Nat.le_of_ble_eq_true rfl⟩) (ck_recv hK hW (hC.n 0 (by decide)) hC.f0 rfl) rfl hl rfl (Nat.le_of_ble_eq_true rfl) dX4_doubles_2 ⟨Nat.le_of_ble_eq_true rfl, Nat.le_of_ble_eq_true rfl⟩ (fun r_2 h_2 => ?_)
  rcases h_2 with ⟨j2, hj2, e2, rfl⟩ | ⟨hno2, rfl⟩
  · skip
    refine lv_astore_n (lv' := [(2, .ref (ad (5 + j2))), (0, .ref (ad 0)), (1, .int a0)]) hx hb dX4_doubles_5 rfl hl (by decide) rfl (fun ls hl => ?_)
    refine lv_aload_n hx hb dX4_doubles_6 rfl (lv_at hl 0 rfl) ?_
    refine lv_ifnonnull (tgt := 20) hx hb dX4_doubles_7 (by decide) ?_
    refine lv_aload_n hx hb dX4_doubles_20 rfl (lv_at hl 0 rfl) ?_
    refine ck_get (v := .int (V 15 j2)) hx hb hts hinX3 hown hK hW (hC.n (5 + j2) (by omega)) (hC.src j2 hj2) rfl 4 (by decide) (hts _ (List.mem_of_getElem? (i := 3) rfl)) rfl rfl dX4_doubles_21 ?_
    refine W.widen (k := 1) (n := 6) (by decide) (by decide) ?_
    exact vx_ret (W.iret (v := (V 15 j2)) hx hb hr (fun t ht hW9 => ⟨⟨_, rfl, by rw [ht]; exact ⟨Or.inr ⟨j2, hj2, e2, rfl, rfl⟩, hW⟩⟩, hS.F ht⟩) hS.2.2 dX4_doubles_24)
  · skip
    refine lv_astore_nN (lv' := [(2, .null), (0, .ref (ad 0)), (1, .int a0)]) hx hb dX4_doubles_5 rfl hl (by decide) rfl (fun ls hl => ?_)
    refine lv_aload_nN hx hb dX4_doubles_6 rfl (lv_at hl 0 rfl) ?_
    refine lv_ifnonnullN hx hb dX4_doubles_7 ?_
    exact ck_throw (cls := "java/lang/IllegalArgumentException") (text := "no such switch") hx hb hlt hown hKK0 (by decide +kernel) (by decide +kernel) (hts _ (List.mem_of_getElem? (i := 1) rfl)) (hts _ (List.mem_of_getElem? (i := 2) rfl)) (List.mem_of_getElem? (i := 3) rfl) (List.mem_of_getElem? (i := 0) rfl) (fun w hw => hts w (List.mem_cons_of_mem _ (List.mem_append.mpr (Or.inr hw)))) (by decide +kernel) (by decide +kernel) hS (hl.1.trans hml.symm) dX4_doubles_10 dX4_doubles_13 dX4_doubles_14 dX4_doubles_16 dX4_doubles_19 hnx (Nat.le_of_ble_eq_true rfl) (Nat.le_of_ble_eq_true rfl) (Nat.le_of_ble_eq_true rfl) (Nat.le_of_ble_eq_true rfl) hlocks (Nat.le_of_ble_eq_true rfl) (Nat.le_of_ble_eq_true rfl) hW (⟨1, 0, Or.inl ⟨hno2, rfl⟩, ⟨rfl, rfl⟩⟩)
set_option maxHeartbeats 4000000 in
set_option maxRecDepth 100000 in
theorem ct_X4_legs (l : Launch) (G : ck_G) (H : Heap) (ad : Nat → Nat) (N : Nat → Prop) (F : Nat → va_E) (hW : ck_W G ad N F H) (V : Nat → Nat → Int32) (L : Nat → Nat → Int64) (nc nr : Nat) (hC : ck_C G ad V L nc nr N F) (hlt : l.stackTraces = false) (a0 : Int32) : vx_Met l yX4_legs wsX4_legs ({ frames := 6, cells := 1, slots := 6, locals := 90 }) (ck_P G H [.ref (ad 0), .int a0]) (ck_Qi G (fun r H1 => ck_Rcall nc (V 3) a0 0 r ∧ ck_W G ad N F H1)) (ck_Xc G (fun E => ∃ k r, ck_Rcall nc (V 3) a0 k r ∧ ck_ex1 ck_IOB k E) ad N F) 1 6 (ck_A G) := by
  refine vx_ofW (cc := cX4_legs) (maxL := 3) (ret := (some .int)) (by decide) rfl ?_
  intro p e s m args below meth c s₁ B hml hnx hv
  obtain ⟨rfl, hH, hKK⟩ := hv
  subst hH
  have hx := B.exec
  have hb := B.bytes
  have hr := B.returns
  have hts := atoms_spec (ws := wsX4_legs) B.pre
  have hown : s.vm.findClass RX4 = some m.cls := findClass_of_methodNamed B.named
  have hlocks := B.notSynchronized
  have hKK0 := hKK
  have hK := hKK.1.1
  have hS : va_S (ck_A G) s.heap s.heap [] := va_S.rf
  have hinX0 : ∀ w ∈ u_ws RX0 TX0 8, w ∈ wsX4_legs := by decide +kernel
  have hl := lv_entry ([.ref (ad 0), .int a0]) (n := 3) (Nat.le_of_ble_eq_true rfl)
  rw [lg_entry_eq]
  generalize (lg_sl ([.ref (ad 0), .int a0]) ++ List.replicate (3 - (lg_sl ([.ref (ad 0), .int a0])).length) Slot.unset).toArray = ls at hl ⊢
  have hl : lv_has ls 3 [(0, .ref (ad 0)), (1, .int a0)] := hl
  have hsm : ck_sD F F := fun _ _ _ => rfl
  refine lv_aload_n hx hb dX4_legs_0 rfl (lv_at hl 0 rfl) ?_
  refine lv_iload_n hx hb dX4_legs_1 rfl (lv_at hl 1 rfl) ?_
  refine ck_cVq (As := [.int a0]) (rest := []) ⟨hx, hb, hml, hown, hts⟩ hKK (ct_X4_callAt l G s.heap ad N F hW V L nc nr hC a0) (cwV 1 hts gX4_legs_X4_callAt rfl rfl rfl (by decide +kernel) ⟨Nat.le_of_ble_eq_true rfl, Nat.le_of_ble_eq_true rfl⟩) (ck_recv hK hW (hC.n 0 (by decide)) hC.f0 rfl) rfl hl rfl (Nat.le_of_ble_eq_true rfl) dX4_legs_2 ⟨Nat.le_of_ble_eq_true rfl, Nat.le_of_ble_eq_true rfl⟩ (fun r_2 h_2 => ?_)
  rcases h_2 with ⟨j2, hj2, e2, rfl⟩ | ⟨hno2, rfl⟩
  · skip
    refine lv_astore_n (lv' := [(2, .ref (ad (100 + j2))), (0, .ref (ad 0)), (1, .int a0)]) hx hb dX4_legs_5 rfl hl (by decide) rfl (fun ls hl => ?_)
    refine lv_aload_n hx hb dX4_legs_6 rfl (lv_at hl 0 rfl) ?_
    refine lv_ifnonnull (tgt := 20) hx hb dX4_legs_7 (by decide) ?_
    refine lv_aload_n hx hb dX4_legs_20 rfl (lv_at hl 0 rfl) ?_
    refine ck_get (v := .int (V 3 j2)) hx hb hts hinX0 hown hK hW (hC.ncall j2 hj2) (hC.call j2 hj2) rfl 4 (by decide) (hts _ (List.mem_of_getElem? (i := 3) rfl)) rfl rfl dX4_legs_21 ?_
    refine W.widen (k := 1) (n := 6) (by decide) (by decide) ?_
    exact vx_ret (W.iret (v := (V 3 j2)) hx hb hr (fun t ht hW9 => ⟨⟨_, rfl, by rw [ht]; exact ⟨Or.inr ⟨j2, hj2, e2, rfl, rfl⟩, hW⟩⟩, hS.F ht⟩) hS.2.2 dX4_legs_24)
  · skip
    refine lv_astore_nN (lv' := [(2, .null), (0, .ref (ad 0)), (1, .int a0)]) hx hb dX4_legs_5 rfl hl (by decide) rfl (fun ls hl => ?_)
    refine lv_aload_nN hx hb dX4_legs_6 rfl (lv_at hl 0 rfl) ?_
    refine lv_ifnonnullN hx hb dX4_legs_7 ?_
    exact ck_throw (cls := "java/lang/IndexOutOfBoundsException") (text := "no such call") hx hb hlt hown hKK0 (by decide +kernel) (by decide +kernel) (hts _ (List.mem_of_getElem? (i := 1) rfl)) (hts _ (List.mem_of_getElem? (i := 2) rfl)) (List.mem_of_getElem? (i := 4) rfl) (List.mem_of_getElem? (i := 2) rfl) (fun w hw => hts w (List.mem_cons_of_mem _ (List.mem_append.mpr (Or.inr hw)))) (by decide +kernel) (by decide +kernel) hS (hl.1.trans hml.symm) dX4_legs_10 dX4_legs_13 dX4_legs_14 dX4_legs_16 dX4_legs_19 hnx (Nat.le_of_ble_eq_true rfl) (Nat.le_of_ble_eq_true rfl) (Nat.le_of_ble_eq_true rfl) (Nat.le_of_ble_eq_true rfl) hlocks (Nat.le_of_ble_eq_true rfl) (Nat.le_of_ble_eq_true rfl) hW (⟨1, 0, Or.inl ⟨hno2, rfl⟩, ⟨rfl, rfl⟩⟩)
set_option maxHeartbeats 4000000 in
set_option maxRecDepth 100000 in
theorem ct_X4_length (l : Launch) (G : ck_G) (H : Heap) (ad : Nat → Nat) (N : Nat → Prop) (F : Nat → va_E) (hW : ck_W G ad N F H) (V : Nat → Nat → Int32) (L : Nat → Nat → Int64) (nc nr : Nat) (hC : ck_C G ad V L nc nr N F) (hlt : l.stackTraces = false) (a0 : Int32) : vx_Met l yX4_length wsX4_length ({ frames := 6, cells := 1, slots := 6, locals := 90 }) (ck_P G H [.ref (ad 0), .int a0]) (ck_Qi G (fun r H1 => ck_Rcall nc (V 4) a0 0 r ∧ ck_W G ad N F H1)) (ck_Xc G (fun E => ∃ k r, ck_Rcall nc (V 4) a0 k r ∧ ck_ex1 ck_IOB k E) ad N F) 1 6 (ck_A G) := by
  refine vx_ofW (cc := cX4_length) (maxL := 3) (ret := (some .int)) (by decide) rfl ?_
  intro p e s m args below meth c s₁ B hml hnx hv
  obtain ⟨rfl, hH, hKK⟩ := hv
  subst hH
  have hx := B.exec
  have hb := B.bytes
  have hr := B.returns
  have hts := atoms_spec (ws := wsX4_length) B.pre
  have hown : s.vm.findClass RX4 = some m.cls := findClass_of_methodNamed B.named
  have hlocks := B.notSynchronized
  have hKK0 := hKK
  have hK := hKK.1.1
  have hS : va_S (ck_A G) s.heap s.heap [] := va_S.rf
  have hinX0 : ∀ w ∈ u_ws RX0 TX0 8, w ∈ wsX4_length := by decide +kernel
  have hl := lv_entry ([.ref (ad 0), .int a0]) (n := 3) (Nat.le_of_ble_eq_true rfl)
  rw [lg_entry_eq]
  generalize (lg_sl ([.ref (ad 0), .int a0]) ++ List.replicate (3 - (lg_sl ([.ref (ad 0), .int a0])).length) Slot.unset).toArray = ls at hl ⊢
  have hl : lv_has ls 3 [(0, .ref (ad 0)), (1, .int a0)] := hl
  have hsm : ck_sD F F := fun _ _ _ => rfl
  refine lv_aload_n hx hb dX4_length_0 rfl (lv_at hl 0 rfl) ?_
  refine lv_iload_n hx hb dX4_length_1 rfl (lv_at hl 1 rfl) ?_
  refine ck_cVq (As := [.int a0]) (rest := []) ⟨hx, hb, hml, hown, hts⟩ hKK (ct_X4_callAt l G s.heap ad N F hW V L nc nr hC a0) (cwV 1 hts gX4_length_X4_callAt rfl rfl rfl (by decide +kernel) ⟨Nat.le_of_ble_eq_true rfl, Nat.le_of_ble_eq_true rfl⟩) (ck_recv hK hW (hC.n 0 (by decide)) hC.f0 rfl) rfl hl rfl (Nat.le_of_ble_eq_true rfl) dX4_length_2 ⟨Nat.le_of_ble_eq_true rfl, Nat.le_of_ble_eq_true rfl⟩ (fun r_2 h_2 => ?_)
  rcases h_2 with ⟨j2, hj2, e2, rfl⟩ | ⟨hno2, rfl⟩
  · skip
    refine lv_astore_n (lv' := [(2, .ref (ad (100 + j2))), (0, .ref (ad 0)), (1, .int a0)]) hx hb dX4_length_5 rfl hl (by decide) rfl (fun ls hl => ?_)
    refine lv_aload_n hx hb dX4_length_6 rfl (lv_at hl 0 rfl) ?_
    refine lv_ifnonnull (tgt := 20) hx hb dX4_length_7 (by decide) ?_
    refine lv_aload_n hx hb dX4_length_20 rfl (lv_at hl 0 rfl) ?_
    refine ck_get (v := .int (V 4 j2)) hx hb hts hinX0 hown hK hW (hC.ncall j2 hj2) (hC.call j2 hj2) rfl 5 (by decide) (hts _ (List.mem_of_getElem? (i := 3) rfl)) rfl rfl dX4_length_21 ?_
    refine W.widen (k := 1) (n := 6) (by decide) (by decide) ?_
    exact vx_ret (W.iret (v := (V 4 j2)) hx hb hr (fun t ht hW9 => ⟨⟨_, rfl, by rw [ht]; exact ⟨Or.inr ⟨j2, hj2, e2, rfl, rfl⟩, hW⟩⟩, hS.F ht⟩) hS.2.2 dX4_length_24)
  · skip
    refine lv_astore_nN (lv' := [(2, .null), (0, .ref (ad 0)), (1, .int a0)]) hx hb dX4_length_5 rfl hl (by decide) rfl (fun ls hl => ?_)
    refine lv_aload_nN hx hb dX4_length_6 rfl (lv_at hl 0 rfl) ?_
    refine lv_ifnonnullN hx hb dX4_length_7 ?_
    exact ck_throw (cls := "java/lang/IndexOutOfBoundsException") (text := "no such call") hx hb hlt hown hKK0 (by decide +kernel) (by decide +kernel) (hts _ (List.mem_of_getElem? (i := 1) rfl)) (hts _ (List.mem_of_getElem? (i := 2) rfl)) (List.mem_of_getElem? (i := 4) rfl) (List.mem_of_getElem? (i := 2) rfl) (fun w hw => hts w (List.mem_cons_of_mem _ (List.mem_append.mpr (Or.inr hw)))) (by decide +kernel) (by decide +kernel) hS (hl.1.trans hml.symm) dX4_length_10 dX4_length_13 dX4_length_14 dX4_length_16 dX4_length_19 hnx (Nat.le_of_ble_eq_true rfl) (Nat.le_of_ble_eq_true rfl) (Nat.le_of_ble_eq_true rfl) (Nat.le_of_ble_eq_true rfl) hlocks (Nat.le_of_ble_eq_true rfl) (Nat.le_of_ble_eq_true rfl) hW (⟨1, 0, Or.inl ⟨hno2, rfl⟩, ⟨rfl, rfl⟩⟩)
set_option maxHeartbeats 4000000 in
set_option maxRecDepth 100000 in
theorem ct_X4_charge (l : Launch) (G : ck_G) (H : Heap) (ad : Nat → Nat) (N : Nat → Prop) (F : Nat → va_E) (hW : ck_W G ad N F H) (V : Nat → Nat → Int32) (L : Nat → Nat → Int64) (nc nr : Nat) (hC : ck_C G ad V L nc nr N F) (hlt : l.stackTraces = false) (a0 : Int32) : vx_Met l yX4_charge wsX4_charge ({ frames := 6, cells := 1, slots := 6, locals := 90 }) (ck_P G H [.ref (ad 0), .int a0]) (ck_Qi G (fun r H1 => ck_Rcall2 nc (ck_now V nr) a0 0 r ∧ ck_W G ad N F H1)) (ck_Xc G (fun E => ∃ k r, ck_Rcall2 nc (ck_now V nr) a0 k r ∧ ck_ex2 ck_IOB ck_NSE k E) ad N F) 1 6 (ck_A G) := by
  refine vx_ofW (cc := cX4_charge) (maxL := 4) (ret := (some .int)) (by decide) rfl ?_
  intro p e s m args below meth c s₁ B hml hnx hv
  obtain ⟨rfl, hH, hKK⟩ := hv
  subst hH
  have hx := B.exec
  have hb := B.bytes
  have hr := B.returns
  have hts := atoms_spec (ws := wsX4_charge) B.pre
  have hown : s.vm.findClass RX4 = some m.cls := findClass_of_methodNamed B.named
  have hlocks := B.notSynchronized
  have hKK0 := hKK
  have hK := hKK.1.1
  have hS : va_S (ck_A G) s.heap s.heap [] := va_S.rf
  have hl := lv_entry ([.ref (ad 0), .int a0]) (n := 4) (Nat.le_of_ble_eq_true rfl)
  rw [lg_entry_eq]
  generalize (lg_sl ([.ref (ad 0), .int a0]) ++ List.replicate (4 - (lg_sl ([.ref (ad 0), .int a0])).length) Slot.unset).toArray = ls at hl ⊢
  have hl : lv_has ls 4 [(0, .ref (ad 0)), (1, .int a0)] := hl
  have hsm : ck_sD F F := fun _ _ _ => rfl
  refine lv_aload_n hx hb dX4_charge_0 rfl (lv_at hl 0 rfl) ?_
  refine lv_iload_n hx hb dX4_charge_1 rfl (lv_at hl 1 rfl) ?_
  refine ck_cVq (As := [.int a0]) (rest := []) ⟨hx, hb, hml, hown, hts⟩ hKK (ct_X4_callAt l G s.heap ad N F hW V L nc nr hC a0) (cwV 1 hts gX4_charge_X4_callAt rfl rfl rfl (by decide +kernel) ⟨Nat.le_of_ble_eq_true rfl, Nat.le_of_ble_eq_true rfl⟩) (ck_recv hK hW (hC.n 0 (by decide)) hC.f0 rfl) rfl hl rfl (Nat.le_of_ble_eq_true rfl) dX4_charge_2 ⟨Nat.le_of_ble_eq_true rfl, Nat.le_of_ble_eq_true rfl⟩ (fun r_2 h_2 => ?_)
  rcases h_2 with ⟨j2, hj2, e2, rfl⟩ | ⟨hno2, rfl⟩
  · skip
    refine lv_astore_n (lv' := [(2, .ref (ad (100 + j2))), (0, .ref (ad 0)), (1, .int a0)]) hx hb dX4_charge_5 rfl hl (by decide) rfl (fun ls hl => ?_)
    refine lv_aload_n hx hb dX4_charge_6 rfl (lv_at hl 0 rfl) ?_
    refine lv_ifnonnull (tgt := 20) hx hb dX4_charge_7 (by decide) ?_
    refine lv_aload_n hx hb dX4_charge_20 rfl (lv_at hl 1 rfl) ?_
    refine lv_aload_n hx hb dX4_charge_21 rfl (lv_at hl 0 rfl) ?_
    refine ck_cVi (As := [.ref (ad (100 + j2))]) (rest := []) ⟨hx, hb, hml, hown, hts⟩ hKK (ct_X4_chargeNow l G s.heap ad N F hW V L nc nr hC j2 hj2) (cwV 1 hts gX4_charge_X4_chargeNow rfl rfl rfl (by decide +kernel) ⟨Nat.le_of_ble_eq_true rfl, Nat.le_of_ble_eq_true rfl⟩) (ck_recv hK hW (hC.n 0 (by decide)) hC.f0 rfl) rfl hl rfl (Nat.le_of_ble_eq_true rfl) dX4_charge_22 ⟨Nat.le_of_ble_eq_true rfl, Nat.le_of_ble_eq_true rfl⟩ (fun r_22 h_22 => ?_)
    subst h_22
    refine lv_istore_n (lv' := [(3, .int (ck_now V nr j2)), (2, .ref (ad (100 + j2))), (0, .ref (ad 0)), (1, .int a0)]) hx hb dX4_charge_25 rfl hl (by decide) rfl (fun ls hl => ?_)
    refine lv_iload_n hx hb dX4_charge_26 rfl (lv_at hl 0 rfl) ?_
    refine lv_iconst (v := (-1)) hx hb dX4_charge_27 (by decide) ?_
    refine lv_icmp_ne (tgt := 41) hx hb dX4_charge_28 (by decide) (fun c_28 => ?_) (fun c_28 => ?_)
    · skip
      refine lv_iload_n hx hb dX4_charge_41 rfl (lv_at hl 0 rfl) ?_
      refine W.widen (k := 1) (n := 6) (by decide) (by decide) ?_
      exact vx_ret (W.iret (v := (ck_now V nr j2)) hx hb hr (fun t ht hW9 => ⟨⟨_, rfl, by rw [ht]; exact ⟨Or.inr ⟨j2, hj2, e2, Or.inr ⟨c_28, rfl, rfl⟩⟩, hW⟩⟩, hS.F ht⟩) hS.2.2 dX4_charge_42)
    · skip
      exact ck_throwN (cls := "java/util/NoSuchElementException") (text := "no rate for the call") hx hb hlt hown hKK0 (by decide +kernel) (by decide +kernel) (hts _ (List.mem_of_getElem? (i := 3) rfl)) (hts _ (List.mem_of_getElem? (i := 4) rfl)) (List.mem_of_getElem? (i := 9) rfl) (List.mem_of_getElem? (i := 3) rfl) (fun w hw => hts w (List.mem_cons_of_mem _ (List.mem_append.mpr (Or.inr hw)))) (by decide +kernel) (by decide +kernel) hS (hl.1.trans hml.symm) dX4_charge_31 dX4_charge_34 dX4_charge_35 dX4_charge_37 dX4_charge_40 hnx (Nat.le_of_ble_eq_true rfl) (Nat.le_of_ble_eq_true rfl) (Nat.le_of_ble_eq_true rfl) (Nat.le_of_ble_eq_true rfl) hlocks (Nat.le_of_ble_eq_true rfl) (Nat.le_of_ble_eq_true rfl) hW (⟨2, 0, Or.inr ⟨j2, hj2, e2, Or.inl ⟨c_28, rfl⟩⟩, Or.inr ⟨rfl, rfl⟩⟩)
  · skip
    refine lv_astore_nN (lv' := [(2, .null), (0, .ref (ad 0)), (1, .int a0)]) hx hb dX4_charge_5 rfl hl (by decide) rfl (fun ls hl => ?_)
    refine lv_aload_nN hx hb dX4_charge_6 rfl (lv_at hl 0 rfl) ?_
    refine lv_ifnonnullN hx hb dX4_charge_7 ?_
    exact ck_throw (cls := "java/lang/IndexOutOfBoundsException") (text := "no such call") hx hb hlt hown hKK0 (by decide +kernel) (by decide +kernel) (hts _ (List.mem_of_getElem? (i := 1) rfl)) (hts _ (List.mem_of_getElem? (i := 2) rfl)) (List.mem_of_getElem? (i := 4) rfl) (List.mem_of_getElem? (i := 2) rfl) (fun w hw => hts w (List.mem_cons_of_mem _ (List.mem_append.mpr (Or.inl (List.mem_append.mpr (Or.inr hw)))))) (by decide +kernel) (by decide +kernel) hS (hl.1.trans hml.symm) dX4_charge_10 dX4_charge_13 dX4_charge_14 dX4_charge_16 dX4_charge_19 hnx (Nat.le_of_ble_eq_true rfl) (Nat.le_of_ble_eq_true rfl) (Nat.le_of_ble_eq_true rfl) (Nat.le_of_ble_eq_true rfl) hlocks (Nat.le_of_ble_eq_true rfl) (Nat.le_of_ble_eq_true rfl) hW (⟨1, 0, Or.inl ⟨hno2, rfl⟩, Or.inl ⟨rfl, rfl⟩⟩)
set_option maxHeartbeats 4000000 in
set_option maxRecDepth 100000 in
theorem ct_X4_booked (l : Launch) (G : ck_G) (H : Heap) (ad : Nat → Nat) (N : Nat → Prop) (F : Nat → va_E) (hW : ck_W G ad N F H) (V : Nat → Nat → Int32) (L : Nat → Nat → Int64) (nc nr : Nat) (hC : ck_C G ad V L nc nr N F) (hlt : l.stackTraces = false) (a0 : Int32) : vx_Met l yX4_booked wsX4_booked ({ frames := 6, cells := 1, slots := 6, locals := 90 }) (ck_P G H [.ref (ad 0), .int a0]) (ck_Qi G (fun r H1 => ck_Rcall2 nc (V 5) a0 0 r ∧ ck_W G ad N F H1)) (ck_Xc G (fun E => ∃ k r, ck_Rcall2 nc (V 5) a0 k r ∧ ck_ex2 ck_IOB ck_NSE k E) ad N F) 1 6 (ck_A G) := by
  refine vx_ofW (cc := cX4_booked) (maxL := 3) (ret := (some .int)) (by decide) rfl ?_
  intro p e s m args below meth c s₁ B hml hnx hv
  obtain ⟨rfl, hH, hKK⟩ := hv
  subst hH
  have hx := B.exec
  have hb := B.bytes
  have hr := B.returns
  have hts := atoms_spec (ws := wsX4_booked) B.pre
  have hown : s.vm.findClass RX4 = some m.cls := findClass_of_methodNamed B.named
  have hlocks := B.notSynchronized
  have hKK0 := hKK
  have hK := hKK.1.1
  have hS : va_S (ck_A G) s.heap s.heap [] := va_S.rf
  have hinX0 : ∀ w ∈ u_ws RX0 TX0 8, w ∈ wsX4_booked := by decide +kernel
  have hl := lv_entry ([.ref (ad 0), .int a0]) (n := 3) (Nat.le_of_ble_eq_true rfl)
  rw [lg_entry_eq]
  generalize (lg_sl ([.ref (ad 0), .int a0]) ++ List.replicate (3 - (lg_sl ([.ref (ad 0), .int a0])).length) Slot.unset).toArray = ls at hl ⊢
  have hl : lv_has ls 3 [(0, .ref (ad 0)), (1, .int a0)] := hl
  have hsm : ck_sD F F := fun _ _ _ => rfl
  refine lv_aload_n hx hb dX4_booked_0 rfl (lv_at hl 0 rfl) ?_
  refine lv_iload_n hx hb dX4_booked_1 rfl (lv_at hl 1 rfl) ?_
  refine ck_cVq (As := [.int a0]) (rest := []) ⟨hx, hb, hml, hown, hts⟩ hKK (ct_X4_callAt l G s.heap ad N F hW V L nc nr hC a0) (cwV 1 hts gX4_booked_X4_callAt rfl rfl rfl (by decide +kernel) ⟨Nat.le_of_ble_eq_true rfl, Nat.le_of_ble_eq_true rfl⟩) (ck_recv hK hW (hC.n 0 (by decide)) hC.f0 rfl) rfl hl rfl (Nat.le_of_ble_eq_true rfl) dX4_booked_2 ⟨Nat.le_of_ble_eq_true rfl, Nat.le_of_ble_eq_true rfl⟩ (fun r_2 h_2 => ?_)
  rcases h_2 with ⟨j2, hj2, e2, rfl⟩ | ⟨hno2, rfl⟩
  · skip
    refine lv_astore_n (lv' := [(2, .ref (ad (100 + j2))), (0, .ref (ad 0)), (1, .int a0)]) hx hb dX4_booked_5 rfl hl (by decide) rfl (fun ls hl => ?_)
    refine lv_aload_n hx hb dX4_booked_6 rfl (lv_at hl 0 rfl) ?_
    refine lv_ifnonnull (tgt := 20) hx hb dX4_booked_7 (by decide) ?_
    refine lv_aload_n hx hb dX4_booked_20 rfl (lv_at hl 0 rfl) ?_
    refine ck_cVi (As := []) (rest := []) ⟨hx, hb, hml, hown, hts⟩ hKK (ct_X0_isBooked l G s.heap ad N F hW (100 + j2) (hC.ncall j2 hj2) ((nI j2)) ((V 0 j2)) ((V 1 j2)) ((V 2 j2)) ((V 3 j2)) ((V 4 j2)) ((V 5 j2)) ((V 6 j2)) (hC.call j2 hj2)) (cwV 0 hts gX4_booked_X0_isBooked rfl rfl rfl (by decide +kernel) ⟨Nat.le_of_ble_eq_true rfl, Nat.le_of_ble_eq_true rfl⟩) (ck_recv hK hW (hC.ncall j2 hj2) (hC.call j2 hj2) rfl) rfl hl rfl (Nat.le_of_ble_eq_true rfl) dX4_booked_21 ⟨Nat.le_of_ble_eq_true rfl, Nat.le_of_ble_eq_true rfl⟩ (fun r_21 h_21 => ?_)
    rcases h_21 with ⟨h_21, rfl⟩ | ⟨h_21, rfl⟩
    · skip
      refine lv_if_ne (tgt := 37) hx hb dX4_booked_24 (by decide) (fun _ => ?_) (fun c_24 => absurd c_24 (by decide))
      refine lv_aload_n hx hb dX4_booked_37 rfl (lv_at hl 0 rfl) ?_
      refine ck_get (v := .int (V 5 j2)) hx hb hts hinX0 hown hK hW (hC.ncall j2 hj2) (hC.call j2 hj2) rfl 6 (by decide) (hts _ (List.mem_of_getElem? (i := 5) rfl)) rfl rfl dX4_booked_38 ?_
      refine W.widen (k := 1) (n := 6) (by decide) (by decide) ?_
      exact vx_ret (W.iret (v := (V 5 j2)) hx hb hr (fun t ht hW9 => ⟨⟨_, rfl, by rw [ht]; exact ⟨Or.inr ⟨j2, hj2, e2, Or.inr ⟨h_21, rfl, rfl⟩⟩, hW⟩⟩, hS.F ht⟩) hS.2.2 dX4_booked_41)
    · skip
      refine lv_if_ne (tgt := 37) hx hb dX4_booked_24 (by decide) (fun c_24 => absurd (by decide) c_24) (fun _ => ?_)
      exact ck_throwN (cls := "java/util/NoSuchElementException") (text := "the call is not booked") hx hb hlt hown hKK0 (by decide +kernel) (by decide +kernel) (hts _ (List.mem_of_getElem? (i := 3) rfl)) (hts _ (List.mem_of_getElem? (i := 4) rfl)) (List.mem_of_getElem? (i := 10) rfl) (List.mem_of_getElem? (i := 3) rfl) (fun w hw => hts w (List.mem_cons_of_mem _ (List.mem_append.mpr (Or.inr hw)))) (by decide +kernel) (by decide +kernel) hS (hl.1.trans hml.symm) dX4_booked_27 dX4_booked_30 dX4_booked_31 dX4_booked_33 dX4_booked_36 hnx (Nat.le_of_ble_eq_true rfl) (Nat.le_of_ble_eq_true rfl) (Nat.le_of_ble_eq_true rfl) (Nat.le_of_ble_eq_true rfl) hlocks (Nat.le_of_ble_eq_true rfl) (Nat.le_of_ble_eq_true rfl) hW (⟨2, 0, Or.inr ⟨j2, hj2, e2, Or.inl ⟨Decidable.not_not.mp h_21, rfl⟩⟩, Or.inr ⟨rfl, rfl⟩⟩)
  · skip
    refine lv_astore_nN (lv' := [(2, .null), (0, .ref (ad 0)), (1, .int a0)]) hx hb dX4_booked_5 rfl hl (by decide) rfl (fun ls hl => ?_)
    refine lv_aload_nN hx hb dX4_booked_6 rfl (lv_at hl 0 rfl) ?_
    refine lv_ifnonnullN hx hb dX4_booked_7 ?_
    exact ck_throw (cls := "java/lang/IndexOutOfBoundsException") (text := "no such call") hx hb hlt hown hKK0 (by decide +kernel) (by decide +kernel) (hts _ (List.mem_of_getElem? (i := 1) rfl)) (hts _ (List.mem_of_getElem? (i := 2) rfl)) (List.mem_of_getElem? (i := 4) rfl) (List.mem_of_getElem? (i := 2) rfl) (fun w hw => hts w (List.mem_cons_of_mem _ (List.mem_append.mpr (Or.inl (List.mem_append.mpr (Or.inr hw)))))) (by decide +kernel) (by decide +kernel) hS (hl.1.trans hml.symm) dX4_booked_10 dX4_booked_13 dX4_booked_14 dX4_booked_16 dX4_booked_19 hnx (Nat.le_of_ble_eq_true rfl) (Nat.le_of_ble_eq_true rfl) (Nat.le_of_ble_eq_true rfl) (Nat.le_of_ble_eq_true rfl) hlocks (Nat.le_of_ble_eq_true rfl) (Nat.le_of_ble_eq_true rfl) hW (⟨1, 0, Or.inl ⟨hno2, rfl⟩, Or.inl ⟨rfl, rfl⟩⟩)
set_option maxHeartbeats 4000000 in
set_option maxRecDepth 100000 in
theorem ct_X4_claim (l : Launch) (G : ck_G) (H : Heap) (ad : Nat → Nat) (N : Nat → Prop) (F : Nat → va_E) (hW : ck_W G ad N F H) (V : Nat → Nat → Int32) (L : Nat → Nat → Int64) (nc nr : Nat) (hC : ck_C G ad V L nc nr N F) (hlt : l.stackTraces = false) (a0 a1 : Int32) : vx_Met l yX4_claim wsX4_claim ({ frames := 6, cells := 1, slots := 6, locals := 90 }) (ck_P G H [.ref (ad 0), .int a0, .int a1]) (ck_Qi G (fun r H1 => ∃ V1 F1, ck_Rclaim V nc a0 a1 0 r V1 ∧ ck_W G ad N F1 H1 ∧ ck_C G ad V1 L nc nr N F1 ∧ ck_sD F F1)) (ck_Xc G (fun E => ∃ k r, ck_Rclaim V nc a0 a1 k r V ∧ ck_ex2 ck_IOB ck_IAE k E) ad N F) 1 6 (ck_A G) := by
  refine vx_ofW (cc := cX4_claim) (maxL := 5) (ret := (some .int)) (by decide) rfl ?_
  intro p e s m args below meth c s₁ B hml hnx hv
  obtain ⟨rfl, hH, hKK⟩ := hv
  subst hH
  have hx := B.exec
  have hb := B.bytes
  have hr := B.returns
  have hts := atoms_spec (ws := wsX4_claim) B.pre
  have hown : s.vm.findClass RX4 = some m.cls := findClass_of_methodNamed B.named
  have hlocks := B.notSynchronized
  have hKK0 := hKK
  have hK := hKK.1.1
  have hS : va_S (ck_A G) s.heap s.heap [] := va_S.rf
  have hinX0 : ∀ w ∈ u_ws RX0 TX0 8, w ∈ wsX4_claim := by decide +kernel
  have hl := lv_entry ([.ref (ad 0), .int a0, .int a1]) (n := 5) (Nat.le_of_ble_eq_true rfl)
  rw [lg_entry_eq]
  generalize (lg_sl ([.ref (ad 0), .int a0, .int a1]) ++ List.replicate (5 - (lg_sl ([.ref (ad 0), .int a0, .int a1])).length) Slot.unset).toArray = ls at hl ⊢
  have hl : lv_has ls 5 [(0, .ref (ad 0)), (1, .int a0), (2, .int a1)] := hl
  have hsm : ck_sD F F := fun _ _ _ => rfl
  refine lv_aload_n hx hb dX4_claim_0 rfl (lv_at hl 0 rfl) ?_
  refine lv_iload_n hx hb dX4_claim_1 rfl (lv_at hl 1 rfl) ?_
  refine ck_cVq (As := [.int a0]) (rest := []) ⟨hx, hb, hml, hown, hts⟩ hKK (ct_X4_callAt l G s.heap ad N F hW V L nc nr hC a0) (cwV 1 hts gX4_claim_X4_callAt rfl rfl rfl (by decide +kernel) ⟨Nat.le_of_ble_eq_true rfl, Nat.le_of_ble_eq_true rfl⟩) (ck_recv hK hW (hC.n 0 (by decide)) hC.f0 rfl) rfl hl rfl (Nat.le_of_ble_eq_true rfl) dX4_claim_2 ⟨Nat.le_of_ble_eq_true rfl, Nat.le_of_ble_eq_true rfl⟩ (fun r_2 h_2 => ?_)
  rcases h_2 with ⟨j2, hj2, e2, rfl⟩ | ⟨hno2, rfl⟩
  · skip
    refine lv_astore_n (lv' := [(3, .ref (ad (100 + j2))), (0, .ref (ad 0)), (1, .int a0), (2, .int a1)]) hx hb dX4_claim_5 rfl hl (by decide) rfl (fun ls hl => ?_)
    refine lv_aload_n hx hb dX4_claim_6 rfl (lv_at hl 0 rfl) ?_
    refine lv_ifnonnull (tgt := 20) hx hb dX4_claim_7 (by decide) ?_
    refine lv_iload_n hx hb dX4_claim_20 rfl (lv_at hl 3 rfl) ?_
    refine lv_iconst (v := 0) hx hb dX4_claim_21 (by decide) ?_
    refine lv_ldc (v := 1000000) hx hb hown (hts _ (List.mem_of_getElem? (i := 5) rfl)) dX4_claim_22 ?_
    refine ck_cSi (As := [.int a1, .int 0, .int 1000000]) (rest := []) ⟨hx, hb, hml, hown, hts⟩ hKK (ct_X4_within l G s.heap a1 0 1000000) (va_cwS 3 hts gX4_claim_X4_within rfl rfl rfl (by decide +kernel) ⟨Nat.le_of_ble_eq_true rfl, Nat.le_of_ble_eq_true rfl⟩) rfl hl rfl (Nat.le_of_ble_eq_true rfl) dX4_claim_24 ⟨Nat.le_of_ble_eq_true rfl, Nat.le_of_ble_eq_true rfl⟩ (fun r_24 h_24 => ?_)
    rcases h_24 with ⟨h_24, rfl⟩ | ⟨h_24, rfl⟩
    · skip
      refine lv_if_ne (tgt := 40) hx hb dX4_claim_27 (by decide) (fun _ => ?_) (fun c_27 => absurd c_27 (by decide))
      refine lv_aload_n hx hb dX4_claim_40 rfl (lv_at hl 0 rfl) ?_
      refine ck_get (v := .int (V 6 j2)) hx hb hts hinX0 hown hK hW (hC.ncall j2 hj2) (hC.call j2 hj2) rfl 7 (by decide) (hts _ (List.mem_of_getElem? (i := 6) rfl)) rfl rfl dX4_claim_41 ?_
      refine lv_istore (lv' := [(4, .int (V 6 j2)), (3, .ref (ad (100 + j2))), (0, .ref (ad 0)), (1, .int a0), (2, .int a1)]) hx hb dX4_claim_44 hl (by decide) rfl (fun ls hl => ?_)
      refine lv_aload_n hx hb dX4_claim_46 rfl (lv_at hl 1 rfl) ?_
      refine lv_iload_n hx hb dX4_claim_47 rfl (lv_at hl 4 rfl) ?_
      refine ck_put (v := .int a1) (ty := .int) hx hb hts hinX0 tyX0 tyX0_ok nmX0 hown hK hW hS (hC.ncall j2 hj2) (hC.call j2 hj2) rfl 7 (by decide) (hts _ (List.mem_of_getElem? (i := 6) rfl)) rfl rfl (by decide +kernel) rfl rfl (Nat.le_of_ble_eq_true rfl) dX4_claim_48 (fun H locs hW hS hz48 => ?_)
      obtain ⟨F_48, hFe48, hFo48, hW⟩ := ck_name hW
      have hC := hC.set6 hj2 hFe48 hFo48
      have hsm := hsm.put (by omega) hFo48
      have hKK := hKK0.keep hS.2.1
      refine lv_iload hx hb dX4_claim_51 (lv_at hl 0 rfl) ?_
      refine W.widen (k := 1) (n := 6) (by decide) (by decide) ?_
      exact vx_ret (W.iret (v := (V 6 j2)) hx hb hr (fun t ht hW9 => ⟨⟨_, rfl, by rw [ht]; exact ⟨_, F_48, Or.inr ⟨j2, hj2, e2, Or.inr ⟨h_24, rfl, rfl, rfl⟩⟩, hW, hC, hsm⟩⟩, hS.F ht⟩) hS.2.2 dX4_claim_53)
    · skip
      refine lv_if_ne (tgt := 40) hx hb dX4_claim_27 (by decide) (fun c_27 => absurd (by decide) c_27) (fun _ => ?_)
      exact ck_throw (cls := "java/lang/IllegalArgumentException") (text := "the amount is out of range") hx hb hlt hown hKK0 (by decide +kernel) (by decide +kernel) (hts _ (List.mem_of_getElem? (i := 3) rfl)) (hts _ (List.mem_of_getElem? (i := 4) rfl)) (List.mem_of_getElem? (i := 18) rfl) (List.mem_of_getElem? (i := 0) rfl) (fun w hw => hts w (List.mem_cons_of_mem _ (List.mem_append.mpr (Or.inr hw)))) (by decide +kernel) (by decide +kernel) hS (hl.1.trans hml.symm) dX4_claim_30 dX4_claim_33 dX4_claim_34 dX4_claim_36 dX4_claim_39 hnx (Nat.le_of_ble_eq_true rfl) (Nat.le_of_ble_eq_true rfl) (Nat.le_of_ble_eq_true rfl) (Nat.le_of_ble_eq_true rfl) hlocks (Nat.le_of_ble_eq_true rfl) (Nat.le_of_ble_eq_true rfl) hW (⟨2, 0, Or.inr ⟨j2, hj2, e2, Or.inl ⟨h_24, rfl, rfl⟩⟩, Or.inr ⟨rfl, rfl⟩⟩)
  · skip
    refine lv_astore_nN (lv' := [(3, .null), (0, .ref (ad 0)), (1, .int a0), (2, .int a1)]) hx hb dX4_claim_5 rfl hl (by decide) rfl (fun ls hl => ?_)
    refine lv_aload_nN hx hb dX4_claim_6 rfl (lv_at hl 0 rfl) ?_
    refine lv_ifnonnullN hx hb dX4_claim_7 ?_
    exact ck_throw (cls := "java/lang/IndexOutOfBoundsException") (text := "no such call") hx hb hlt hown hKK0 (by decide +kernel) (by decide +kernel) (hts _ (List.mem_of_getElem? (i := 1) rfl)) (hts _ (List.mem_of_getElem? (i := 2) rfl)) (List.mem_of_getElem? (i := 4) rfl) (List.mem_of_getElem? (i := 2) rfl) (fun w hw => hts w (List.mem_cons_of_mem _ (List.mem_append.mpr (Or.inl (List.mem_append.mpr (Or.inr hw)))))) (by decide +kernel) (by decide +kernel) hS (hl.1.trans hml.symm) dX4_claim_10 dX4_claim_13 dX4_claim_14 dX4_claim_16 dX4_claim_19 hnx (Nat.le_of_ble_eq_true rfl) (Nat.le_of_ble_eq_true rfl) (Nat.le_of_ble_eq_true rfl) (Nat.le_of_ble_eq_true rfl) hlocks (Nat.le_of_ble_eq_true rfl) (Nat.le_of_ble_eq_true rfl) hW (⟨1, 0, Or.inl ⟨hno2, rfl, rfl⟩, Or.inl ⟨rfl, rfl⟩⟩)
set_option maxHeartbeats 4000000 in
set_option maxRecDepth 100000 in
theorem ct_X4_rateFor (l : Launch) (G : ck_G) (H : Heap) (ad : Nat → Nat) (N : Nat → Prop) (F : Nat → va_E) (hW : ck_W G ad N F H) (V : Nat → Nat → Int32) (L : Nat → Nat → Int64) (nc nr : Nat) (hC : ck_C G ad V L nc nr N F) (hlt : l.stackTraces = false) (a0 a1 : Int32) : vx_Met l yX4_rateFor wsX4_rateFor ({ frames := 6, cells := 1, slots := 6, locals := 90 }) (ck_P G H [.ref (ad 0), .int a0, .int a1]) (ck_Qi G (fun r H1 => ck_Rrate V nr a0 a1 0 r ∧ ck_W G ad N F H1)) (ck_Xc G (fun E => ∃ k r, ck_Rrate V nr a0 a1 k r ∧ ck_ex2 ck_IAE ck_NSE k E) ad N F) 1 6 (ck_A G) := by
  refine vx_ofW (cc := cX4_rateFor) (maxL := 4) (ret := (some .int)) (by decide) rfl ?_
  intro p e s m args below meth c s₁ B hml hnx hv
  obtain ⟨rfl, hH, hKK⟩ := hv
  subst hH
  have hx := B.exec
  have hb := B.bytes
  have hr := B.returns
  have hts := atoms_spec (ws := wsX4_rateFor) B.pre
  have hown : s.vm.findClass RX4 = some m.cls := findClass_of_methodNamed B.named
  have hlocks := B.notSynchronized
  have hKK0 := hKK
  have hK := hKK.1.1
  have hS : va_S (ck_A G) s.heap s.heap [] := va_S.rf
  have hinX2 : ∀ w ∈ u_ws RX2 TX2 7, w ∈ wsX4_rateFor := by decide +kernel
  have hl := lv_entry ([.ref (ad 0), .int a0, .int a1]) (n := 4) (Nat.le_of_ble_eq_true rfl)
  rw [lg_entry_eq]
  generalize (lg_sl ([.ref (ad 0), .int a0, .int a1]) ++ List.replicate (4 - (lg_sl ([.ref (ad 0), .int a0, .int a1])).length) Slot.unset).toArray = ls at hl ⊢
  have hl : lv_has ls 4 [(0, .ref (ad 0)), (1, .int a0), (2, .int a1)] := hl
  have hsm : ck_sD F F := fun _ _ _ => rfl
  refine lv_iload_n hx hb dX4_rateFor_0 rfl (lv_at hl 1 rfl) ?_
  refine ck_cSi (As := [.int a0]) (rest := []) ⟨hx, hb, hml, hown, hts⟩ hKK (ct_X4_isNumber l G s.heap a0) (va_cwS 1 hts gX4_rateFor_X4_isNumber rfl rfl rfl (by decide +kernel) ⟨Nat.le_of_ble_eq_true rfl, Nat.le_of_ble_eq_true rfl⟩) rfl hl rfl (Nat.le_of_ble_eq_true rfl) dX4_rateFor_1 ⟨Nat.le_of_ble_eq_true rfl, Nat.le_of_ble_eq_true rfl⟩ (fun r_1 h_1 => ?_)
  rcases h_1 with ⟨h_1, rfl⟩ | ⟨h_1, rfl⟩
  · skip
    refine lv_if_eq (tgt := 14) hx hb dX4_rateFor_4 (by decide) (fun c_4 => absurd c_4 (by decide)) (fun _ => ?_)
    refine lv_iload_n hx hb dX4_rateFor_7 rfl (lv_at hl 2 rfl) ?_
    refine ck_cSi (As := [.int a1]) (rest := []) ⟨hx, hb, hml, hown, hts⟩ hKK (ct_X4_isDay l G s.heap a1) (va_cwS 1 hts gX4_rateFor_X4_isDay rfl rfl rfl (by decide +kernel) ⟨Nat.le_of_ble_eq_true rfl, Nat.le_of_ble_eq_true rfl⟩) rfl hl rfl (Nat.le_of_ble_eq_true rfl) dX4_rateFor_8 ⟨Nat.le_of_ble_eq_true rfl, Nat.le_of_ble_eq_true rfl⟩ (fun r_8 h_8 => ?_)
    rcases h_8 with ⟨h_8, rfl⟩ | ⟨h_8, rfl⟩
    · skip
      refine lv_if_ne (tgt := 24) hx hb dX4_rateFor_11 (by decide) (fun _ => ?_) (fun c_11 => absurd c_11 (by decide))
      refine lv_aload_n hx hb dX4_rateFor_24 rfl (lv_at hl 0 rfl) ?_
      refine lv_iload_n hx hb dX4_rateFor_25 rfl (lv_at hl 1 rfl) ?_
      refine lv_iload_n hx hb dX4_rateFor_26 rfl (lv_at hl 2 rfl) ?_
      refine ck_cVq (As := [.int a0, .int a1]) (rest := []) ⟨hx, hb, hml, hown, hts⟩ hKK (ct_X4_rateInForce l G s.heap ad N F hW V L nc nr hC a0 a1) (cwV 2 hts gX4_rateFor_X4_rateInForce rfl rfl rfl (by decide +kernel) ⟨Nat.le_of_ble_eq_true rfl, Nat.le_of_ble_eq_true rfl⟩) (ck_recv hK hW (hC.n 0 (by decide)) hC.f0 rfl) rfl hl rfl (Nat.le_of_ble_eq_true rfl) dX4_rateFor_27 ⟨Nat.le_of_ble_eq_true rfl, Nat.le_of_ble_eq_true rfl⟩ (fun r_27 h_27 => ?_)
      rcases h_27 with ⟨b27, hb27, e_27, rfl⟩ | ⟨e_27, rfl⟩
      · skip
        refine lv_astore_n (lv' := [(3, .ref (ad (200 + b27))), (0, .ref (ad 0)), (1, .int a0), (2, .int a1)]) hx hb dX4_rateFor_30 rfl hl (by decide) rfl (fun ls hl => ?_)
        refine lv_aload_n hx hb dX4_rateFor_31 rfl (lv_at hl 0 rfl) ?_
        refine lv_ifnonnull (tgt := 45) hx hb dX4_rateFor_32 (by decide) ?_
        refine lv_aload_n hx hb dX4_rateFor_45 rfl (lv_at hl 0 rfl) ?_
        refine ck_get (v := .int (nI b27)) hx hb hts hinX2 hown hK hW (hC.nrate b27 hb27) (hC.rate b27 hb27) rfl 0 (by decide) (hts _ (List.mem_of_getElem? (i := 5) rfl)) rfl rfl dX4_rateFor_46 ?_
        refine W.widen (k := 1) (n := 6) (by decide) (by decide) ?_
        exact vx_ret (W.iret (v := (nI b27)) hx hb hr (fun t ht hW9 => ⟨⟨_, rfl, by rw [ht]; exact ⟨Or.inr ⟨⟨h_1, h_8⟩, Or.inr ⟨b27, hb27, e_27, rfl, rfl⟩⟩, hW⟩⟩, hS.F ht⟩) hS.2.2 dX4_rateFor_49)
      · skip
        refine lv_astore_nN (lv' := [(3, .null), (0, .ref (ad 0)), (1, .int a0), (2, .int a1)]) hx hb dX4_rateFor_30 rfl hl (by decide) rfl (fun ls hl => ?_)
        refine lv_aload_nN hx hb dX4_rateFor_31 rfl (lv_at hl 0 rfl) ?_
        refine lv_ifnonnullN hx hb dX4_rateFor_32 ?_
        exact ck_throwN (cls := "java/util/NoSuchElementException") (text := "no rate for the number on the day") hx hb hlt hown hKK0 (by decide +kernel) (by decide +kernel) (hts _ (List.mem_of_getElem? (i := 3) rfl)) (hts _ (List.mem_of_getElem? (i := 4) rfl)) (List.mem_of_getElem? (i := 8) rfl) (List.mem_of_getElem? (i := 3) rfl) (fun w hw => hts w (List.mem_cons_of_mem _ (List.mem_append.mpr (Or.inr hw)))) (by decide +kernel) (by decide +kernel) hS (hl.1.trans hml.symm) dX4_rateFor_35 dX4_rateFor_38 dX4_rateFor_39 dX4_rateFor_41 dX4_rateFor_44 hnx (Nat.le_of_ble_eq_true rfl) (Nat.le_of_ble_eq_true rfl) (Nat.le_of_ble_eq_true rfl) (Nat.le_of_ble_eq_true rfl) hlocks (Nat.le_of_ble_eq_true rfl) (Nat.le_of_ble_eq_true rfl) hW (⟨2, 0, Or.inr ⟨⟨h_1, h_8⟩, Or.inl ⟨e_27, rfl⟩⟩, Or.inr ⟨rfl, rfl⟩⟩)
    · skip
      refine lv_if_ne (tgt := 24) hx hb dX4_rateFor_11 (by decide) (fun c_11 => absurd (by decide) c_11) (fun _ => ?_)
      exact ck_throw (cls := "java/lang/IllegalArgumentException") (text := "the number or the day is out of range") hx hb hlt hown hKK0 (by decide +kernel) (by decide +kernel) (hts _ (List.mem_of_getElem? (i := 1) rfl)) (hts _ (List.mem_of_getElem? (i := 2) rfl)) (List.mem_of_getElem? (i := 7) rfl) (List.mem_of_getElem? (i := 0) rfl) (fun w hw => hts w (List.mem_cons_of_mem _ (List.mem_append.mpr (Or.inl (List.mem_append.mpr (Or.inr hw)))))) (by decide +kernel) (by decide +kernel) hS (hl.1.trans hml.symm) dX4_rateFor_14 dX4_rateFor_17 dX4_rateFor_18 dX4_rateFor_20 dX4_rateFor_23 hnx (Nat.le_of_ble_eq_true rfl) (Nat.le_of_ble_eq_true rfl) (Nat.le_of_ble_eq_true rfl) (Nat.le_of_ble_eq_true rfl) hlocks (Nat.le_of_ble_eq_true rfl) (Nat.le_of_ble_eq_true rfl) hW (⟨1, 0, Or.inl ⟨fun z => h_8 z.2, rfl⟩, Or.inl ⟨rfl, rfl⟩⟩)
  · skip
    refine lv_if_eq (tgt := 14) hx hb dX4_rateFor_4 (by decide) (fun _ => ?_) (fun c_4 => absurd (by decide) c_4)
    exact ck_throw (cls := "java/lang/IllegalArgumentException") (text := "the number or the day is out of range") hx hb hlt hown hKK0 (by decide +kernel) (by decide +kernel) (hts _ (List.mem_of_getElem? (i := 1) rfl)) (hts _ (List.mem_of_getElem? (i := 2) rfl)) (List.mem_of_getElem? (i := 7) rfl) (List.mem_of_getElem? (i := 0) rfl) (fun w hw => hts w (List.mem_cons_of_mem _ (List.mem_append.mpr (Or.inl (List.mem_append.mpr (Or.inr hw)))))) (by decide +kernel) (by decide +kernel) hS (hl.1.trans hml.symm) dX4_rateFor_14 dX4_rateFor_17 dX4_rateFor_18 dX4_rateFor_20 dX4_rateFor_23 hnx (Nat.le_of_ble_eq_true rfl) (Nat.le_of_ble_eq_true rfl) (Nat.le_of_ble_eq_true rfl) (Nat.le_of_ble_eq_true rfl) hlocks (Nat.le_of_ble_eq_true rfl) (Nat.le_of_ble_eq_true rfl) hW (⟨1, 0, Or.inl ⟨fun z => h_1 z.1, rfl⟩, Or.inl ⟨rfl, rfl⟩⟩)
set_option maxHeartbeats 4000000 in
set_option maxRecDepth 100000 in
theorem ct_X4_difference (l : Launch) (G : ck_G) (H : Heap) (ad : Nat → Nat) (N : Nat → Prop) (F : Nat → va_E) (hW : ck_W G ad N F H) (V : Nat → Nat → Int32) (L : Nat → Nat → Int64) (nc nr : Nat) (hC : ck_C G ad V L nc nr N F) (hlt : l.stackTraces = false) (a0 : Int32) : vx_Met l yX4_difference wsX4_difference ({ frames := 6, cells := 1, slots := 6, locals := 90 }) (ck_P G H [.ref (ad 0), .int a0]) (ck_Qi G (fun r H1 => ck_Rsum (fun q => ck_df V q nc) a0 0 r ∧ ck_W G ad N F H1)) (ck_Xc G (fun E => ∃ k r, ck_Rsum (fun q => ck_df V q nc) a0 k r ∧ ck_ex1 ck_IAE k E) ad N F) 1 6 (ck_A G) := by
  refine vx_ofW (cc := cX4_difference) (maxL := 2) (ret := (some .int)) (by decide) rfl ?_
  intro p e s m args below meth c s₁ B hml hnx hv
  obtain ⟨rfl, hH, hKK⟩ := hv
  subst hH
  have hx := B.exec
  have hb := B.bytes
  have hr := B.returns
  have hts := atoms_spec (ws := wsX4_difference) B.pre
  have hown : s.vm.findClass RX4 = some m.cls := findClass_of_methodNamed B.named
  have hlocks := B.notSynchronized
  have hKK0 := hKK
  have hK := hKK.1.1
  have hS : va_S (ck_A G) s.heap s.heap [] := va_S.rf
  have hl := lv_entry ([.ref (ad 0), .int a0]) (n := 2) (Nat.le_of_ble_eq_true rfl)
  rw [lg_entry_eq]
  generalize (lg_sl ([.ref (ad 0), .int a0]) ++ List.replicate (2 - (lg_sl ([.ref (ad 0), .int a0])).length) Slot.unset).toArray = ls at hl ⊢
  have hl : lv_has ls 2 [(0, .ref (ad 0)), (1, .int a0)] := hl
  have hsm : ck_sD F F := fun _ _ _ => rfl
  refine lv_iload_n hx hb dX4_difference_0 rfl (lv_at hl 1 rfl) ?_
  refine ck_cSi (As := [.int a0]) (rest := []) ⟨hx, hb, hml, hown, hts⟩ hKK (ct_X4_isPrefix l G s.heap a0) (va_cwS 1 hts gX4_difference_X4_isPrefix rfl rfl rfl (by decide +kernel) ⟨Nat.le_of_ble_eq_true rfl, Nat.le_of_ble_eq_true rfl⟩) rfl hl rfl (Nat.le_of_ble_eq_true rfl) dX4_difference_1 ⟨Nat.le_of_ble_eq_true rfl, Nat.le_of_ble_eq_true rfl⟩ (fun r_1 h_1 => ?_)
  rcases h_1 with ⟨h_1, rfl⟩ | ⟨h_1, rfl⟩
  · skip
    refine lv_if_ne (tgt := 17) hx hb dX4_difference_4 (by decide) (fun _ => ?_) (fun c_4 => absurd c_4 (by decide))
    refine lv_aload_n hx hb dX4_difference_17 rfl (lv_at hl 0 rfl) ?_
    refine lv_iload_n hx hb dX4_difference_18 rfl (lv_at hl 1 rfl) ?_
    refine ck_cVi (As := [.int a0]) (rest := []) ⟨hx, hb, hml, hown, hts⟩ hKK (ct_X4_differenceUnder l G s.heap ad N F hW V L nc nr hC a0) (cwV 1 hts gX4_difference_X4_differenceUnder rfl rfl rfl (by decide +kernel) ⟨Nat.le_of_ble_eq_true rfl, Nat.le_of_ble_eq_true rfl⟩) (ck_recv hK hW (hC.n 0 (by decide)) hC.f0 rfl) rfl hl rfl (Nat.le_of_ble_eq_true rfl) dX4_difference_19 ⟨Nat.le_of_ble_eq_true rfl, Nat.le_of_ble_eq_true rfl⟩ (fun r_19 h_19 => ?_)
    subst h_19
    refine W.widen (k := 1) (n := 6) (by decide) (by decide) ?_
    exact vx_ret (W.iret (v := (ck_df V a0 nc)) hx hb hr (fun t ht hW9 => ⟨⟨_, rfl, by rw [ht]; exact ⟨Or.inr ⟨h_1, rfl, rfl⟩, hW⟩⟩, hS.F ht⟩) hS.2.2 dX4_difference_22)
  · skip
    refine lv_if_ne (tgt := 17) hx hb dX4_difference_4 (by decide) (fun c_4 => absurd (by decide) c_4) (fun _ => ?_)
    exact ck_throw (cls := "java/lang/IllegalArgumentException") (text := "the prefix is out of range") hx hb hlt hown hKK0 (by decide +kernel) (by decide +kernel) (hts _ (List.mem_of_getElem? (i := 1) rfl)) (hts _ (List.mem_of_getElem? (i := 2) rfl)) (List.mem_of_getElem? (i := 11) rfl) (List.mem_of_getElem? (i := 0) rfl) (fun w hw => hts w (List.mem_cons_of_mem _ (List.mem_append.mpr (Or.inr hw)))) (by decide +kernel) (by decide +kernel) hS (hl.1.trans hml.symm) dX4_difference_7 dX4_difference_10 dX4_difference_11 dX4_difference_13 dX4_difference_16 hnx (Nat.le_of_ble_eq_true rfl) (Nat.le_of_ble_eq_true rfl) (Nat.le_of_ble_eq_true rfl) (Nat.le_of_ble_eq_true rfl) hlocks (Nat.le_of_ble_eq_true rfl) (Nat.le_of_ble_eq_true rfl) hW (⟨1, 0, Or.inl ⟨h_1, rfl⟩, ⟨rfl, rfl⟩⟩)
