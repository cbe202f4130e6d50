set_option maxHeartbeats 4000000 in
set_option maxRecDepth 100000 in
theorem cl_setBound {p : Program} {l : Launch} {e : Env} {s : State} {m : MethodId} {below : List Frame} {meth : Method} {c : Code} {G : ck_G} {b Ln : Nat} {xs : Nat → Int32} (hlt : l.stackTraces = false) (C0 : lw_At p s m meth c b Ln xs) (hKK0 : ck_K G s.heap s) (hGz : G.2.2.2 = s.heap.size) (hLn : Ln ≤ 3584) {i n x0 m0 o0 : Nat} (hi : i + 7 ≤ Ln) (hn : n < 100000) {H : Heap} {locs : List Loc} (hS : va_S (ck_A G) s.heap H locs) (hSt : ck_S G x0 m0 o0 n H) {ls : Array Slot} (hl : lv_has ls 7 [(4, .int (nI i)), (3, .ref o0), (2, .ref m0), (1, .ref x0), (0, .ref b)]) {cells slots : Nat} (hcl : cells + 2 ≤ 601024) (hsl : slots + 14 ≤ 7293034) {Q : State → Prop} (kk : ∀ (H : Heap) (locs : List Loc) (ls : Array Slot), va_S (ck_A G) s.heap H locs → ck_S G x0 m0 o0 (n + 1) H → lv_has ls 7 [(4, .int (nI i)), (3, .ref o0), (2, .ref m0), (1, .ref x0), (0, .ref b)] → W p l e room_1 s m #[.ref b] below meth c H locs (cells + 2) (slots + 14) Q (F0 m 1398 ls [])) : W p l e room_1 s m #[.ref b] below meth c H locs cells slots Q (F0 m 144 ls []) := by
  obtain ⟨hx, hb, hr, hml, hown, hts0, hX, hbl, hlocks, hgv⟩ := C0
  have hts : ∀ w ∈ wsL_law, w.before #[Value.ref b] s = true := fun w h => hts0 w (wsL_law_in w h)
  have hown : s.vm.findClass RL = some m.cls := hown
  have hbA : ¬ ck_A G b := by show ¬ (G.2.2.2 ≤ b); rw [hGz]; omega
  obtain ⟨ad, F, V, L, nc, nr, t, g, hW, hC, hM, hJ, hF52, rfl, rfl, rfl, ha1, ha2⟩ := hSt.fresh
  have hK := hKK0.1.1
  have hKK := hKK0.keep hS.2.1
  obtain ⟨a0, ea0⟩ : ∃ y, xs (nI i + 1).toNatClampNeg = y := ⟨_, rfl⟩
  refine lv_aload_n hx hb dL_law_144 rfl (lv_at hl 3 rfl) ?_
  refine lv_aload_n hx hb dL_law_145 rfl (lv_at hl 4 rfl) ?_
  refine lv_iload hx hb dL_law_146 (lv_at hl 0 rfl) ?_
  refine lv_iconst (v := 1) hx hb dL_law_148 (by decide) ?_
  refine lv_iadd hx hb dL_law_149 ?_
  refine ck_sld hx hb hX hbl hbA hS (ck_ixs (k := 1) (by omega) hLn) ea0 dL_law_150 ?_
  refine lv_aload_n hx hb dL_law_151 rfl (lv_at hl 1 rfl) ?_
  refine ck_cLi (As := [.ref (ad 0), .int a0, .ref (ad 52)]) (rest := []) ⟨hx, hb, hml, hown, hts⟩ hKK (ct_L_setBound l G H ad (ck_Nn nc nr) F hW V L nc nr hC hlt (Or.inr (Or.inl (by decide))) g hF52 a0) (vx_cwSW 3 hts gL_law_L_setBound rfl rfl rfl (by decide +kernel) ⟨Nat.le_of_ble_eq_true rfl, Nat.le_of_ble_eq_true rfl⟩) rfl hl rfl (Nat.le_of_ble_eq_true rfl) dL_law_152 ⟨by show cells + 1 ≤ 601024; omega, by show slots + 6 ≤ 7293034; omega⟩ hS (fun kC H locs hP hz hS => ?_)
  obtain ⟨rC, VC, LC, ncC, nrC, N1, F1, g1, hRC, hg1, hF1, hNs, hW, hC1, ho⟩ := hP
  have hM1 : ck_M G ad V L nc nr t N1 F1 := hM.fE ho (fun i h1 h2 => hNs i (Or.inr (Or.inl (by omega))))
  have hKK := hKK0.keep hS.2.1
  refine lv_istore (lv' := [(5, .int kC), (4, .int (nI i)), (3, .ref (ad 52)), (2, .ref (ad 30)), (1, .ref (ad 0)), (0, .ref b)]) hx hb dL_law_155 hl (by decide) rfl (fun ls hl => ?_)
  refine lv_aload_n hx hb dL_law_157 rfl (lv_at hl 3 rfl) ?_
  refine lv_aload_n hx hb dL_law_158 rfl (lv_at hl 5 rfl) ?_
  refine lv_iload hx hb dL_law_159 (lv_at hl 1 rfl) ?_
  refine lv_iconst (v := 1) hx hb dL_law_161 (by decide) ?_
  refine lv_iadd hx hb dL_law_162 ?_
  refine ck_sld hx hb hX hbl hbA hS (ck_ixs (k := 1) (by omega) hLn) ea0 dL_law_163 ?_
  refine ck_cVw (As := [.int a0]) (rest := []) ⟨hx, hb, hml, hown, hts⟩ hKK (ct_X5_setBound l G H ad N1 F1 hW V L nc nr t hM1 hJ.1 a0) (cwV 1 hts gL_law_X5_setBound rfl rfl rfl (by decide +kernel) ⟨Nat.le_of_ble_eq_true rfl, Nat.le_of_ble_eq_true rfl⟩) (ck_recv hK hW (hM1.n 30 (by decide) (by decide)) hM1.f30 rfl) rfl hl rfl (Nat.le_of_ble_eq_true rfl) dL_law_164 ⟨by show cells + 1 + 0 ≤ 601024; omega, by show slots + 6 + 0 ≤ 7293034; omega⟩ hS (fun rM H locs hP hz hS => ?_)
  have hKK := hKK0.keep hS.2.1
  obtain ⟨t1, VM, F2, hRM, hW, hM2, hsM⟩ := hP
  have hsyn : ck_syn n kC rC VC LC ncC nrC t1 rM VM L nc nr := ck_sy_wr (RC := fun k r V1 => ck_Rset V a0 k r V1) (RM := fun k r V1 => ck_Rset V a0 k r V1) (fun _ _ _ _ _ _ a b => ck_s_set hJ a b) hRC ⟨hRM, rfl, rfl, rfl⟩
  have hNew := ck_S.of hW hC1 hsM hM2 (hNs 52 (Or.inr (Or.inl (by decide)))) hF1 hsyn
  refine lv_istore (lv' := [(6, .int rM), (5, .int kC), (4, .int (nI i)), (3, .ref (ad 52)), (2, .ref (ad 30)), (1, .ref (ad 0)), (0, .ref b)]) hx hb dL_law_167 hl (by decide) rfl (fun ls hl => ?_)
  refine lv_aload_n hx hb dL_law_169 rfl (lv_at hl 4 rfl) ?_
  refine ck_cVi (As := []) (rest := []) ⟨hx, hb, hml, hown, hts⟩ hKK (ct_X5_thrown l G H ad N1 F2 hW VM L nc nr t1 hM2) (cwV 0 hts gL_law_X5_thrown rfl rfl rfl (by decide +kernel) ⟨Nat.le_of_ble_eq_true rfl, Nat.le_of_ble_eq_true rfl⟩) (ck_recv hK hW (hM2.n 30 (by decide) (by decide)) hM2.f30 rfl) rfl hl rfl (Nat.le_of_ble_eq_true rfl) dL_law_170 ⟨by show cells + 1 + 0 + 0 ≤ 601024; omega, by show slots + 6 + 0 + 0 ≤ 7293034; omega⟩ (fun r_t h_t => ?_)
  subst h_t
  refine lv_iload hx hb dL_law_173 (lv_at hl 1 rfl) ?_
  refine lv_icmp_eq (tgt := 180) hx hb dL_law_175 (by decide) (fun _ => ?_) (fun c9 => absurd hsyn.1 c9)
  refine lv_iload hx hb dL_law_180 (lv_at hl 1 rfl) ?_
  refine lv_if_ne (tgt := 197) hx hb dL_law_182 (by decide) (fun c8 => ?_) (fun c8 => ?_)
  · skip
    refine lv_goto (tgt := 1398) hx hb dL_law_197 (by decide) ?_
    refine W.widen (k := cells + 2) (n := slots + 14) (by omega) (by omega) ?_
    exact kk H locs ls hS hNew (lv_sub hl [2, 3, 4, 5, 6] rfl)
  · skip
    refine lv_aload_n hx hb dL_law_185 rfl (lv_at hl 3 rfl) ?_
    refine lv_iconst (v := 0) hx hb dL_law_186 (by decide) ?_
    refine ck_lald hx hb hK hW (hNs 52 (Or.inr (Or.inl (by decide)))) ((hsM 52 (by decide)).trans hF1) 0 (by decide) (by decide) (by decide) dL_law_187 ?_
    refine lv_iload hx hb dL_law_188 (lv_at hl 0 rfl) ?_
    refine lv_i2l (v := (rM : Int32).toInt64) hx hb dL_law_190 rfl ?_
    refine W.lcmp hx hb dL_law_191 ?_
    refine lv_if_eq (tgt := 197) hx hb dL_law_192 (by decide) (fun _ => ?_) (fun c9 => absurd ((ck_cmp1 _ _).mpr (by rw [hg1 c8, hsyn.2.1 c8])) c9)
    refine lv_goto (tgt := 1398) hx hb dL_law_197 (by decide) ?_
    refine W.widen (k := cells + 2) (n := slots + 14) (by omega) (by omega) ?_
    exact kk H locs ls hS hNew (lv_sub hl [2, 3, 4, 5, 6] rfl)
set_option maxHeartbeats 4000000 in
set_option maxRecDepth 100000 in
theorem cl_record {p : Program} {l : Launch} {e : Env} {s : State} {m : MethodId} {below : List Frame} {meth : Method} {c : Code} {G : ck_G} {b Ln : Nat} {xs : Nat → Int32} (hlt : l.stackTraces = false) (C0 : lw_At p s m meth c b Ln xs) (hKK0 : ck_K G s.heap s) (hGz : G.2.2.2 = s.heap.size) (hLn : Ln ≤ 3584) {i n x0 m0 o0 : Nat} (hi : i + 7 ≤ Ln) (hn : n < 100000) {H : Heap} {locs : List Loc} (hS : va_S (ck_A G) s.heap H locs) (hSt : ck_S G x0 m0 o0 n H) {ls : Array Slot} (hl : lv_has ls 7 [(4, .int (nI i)), (3, .ref o0), (2, .ref m0), (1, .ref x0), (0, .ref b)]) {cells slots : Nat} (hcl : cells + 2 ≤ 601024) (hsl : slots + 14 ≤ 7293034) {Q : State → Prop} (kk : ∀ (H : Heap) (locs : List Loc) (ls : Array Slot), va_S (ck_A G) s.heap H locs → ck_S G x0 m0 o0 (n + 1) H → lv_has ls 7 [(4, .int (nI i)), (3, .ref o0), (2, .ref m0), (1, .ref x0), (0, .ref b)] → W p l e room_1 s m #[.ref b] below meth c H locs (cells + 2) (slots + 14) Q (F0 m 1398 ls [])) : W p l e room_1 s m #[.ref b] below meth c H locs cells slots Q (F0 m 200 ls []) := by
  obtain ⟨hx, hb, hr, hml, hown, hts0, hX, hbl, hlocks, hgv⟩ := C0
  have hts : ∀ w ∈ wsL_law, w.before #[Value.ref b] s = true := fun w h => hts0 w (wsL_law_in w h)
  have hown : s.vm.findClass RL = some m.cls := hown
  have hbA : ¬ ck_A G b := by show ¬ (G.2.2.2 ≤ b); rw [hGz]; omega
  obtain ⟨ad, F, V, L, nc, nr, t, g, hW, hC, hM, hJ, hF52, rfl, rfl, rfl, ha1, ha2⟩ := hSt.fresh
  have hK := hKK0.1.1
  have hKK := hKK0.keep hS.2.1
  obtain ⟨a0, ea0⟩ : ∃ y, xs (nI i + 1).toNatClampNeg = y := ⟨_, rfl⟩
  obtain ⟨a1, ea1⟩ : ∃ y, xs (nI i + 2).toNatClampNeg = y := ⟨_, rfl⟩
  obtain ⟨a2, ea2⟩ : ∃ y, xs (nI i + 3).toNatClampNeg = y := ⟨_, rfl⟩
  obtain ⟨a3, ea3⟩ : ∃ y, xs (nI i + 4).toNatClampNeg = y := ⟨_, rfl⟩
  obtain ⟨a4, ea4⟩ : ∃ y, xs (nI i + 5).toNatClampNeg = y := ⟨_, rfl⟩
  refine lv_aload_n hx hb dL_law_200 rfl (lv_at hl 3 rfl) ?_
  refine lv_aload_n hx hb dL_law_201 rfl (lv_at hl 4 rfl) ?_
  refine lv_iload hx hb dL_law_202 (lv_at hl 0 rfl) ?_
  refine lv_iconst (v := 1) hx hb dL_law_204 (by decide) ?_
  refine lv_iadd hx hb dL_law_205 ?_
  refine ck_sld hx hb hX hbl hbA hS (ck_ixs (k := 1) (by omega) hLn) ea0 dL_law_206 ?_
  refine lv_aload_n hx hb dL_law_207 rfl (lv_at hl 4 rfl) ?_
  refine lv_iload hx hb dL_law_208 (lv_at hl 0 rfl) ?_
  refine lv_iconst (v := 2) hx hb dL_law_210 (by decide) ?_
  refine lv_iadd hx hb dL_law_211 ?_
  refine ck_sld hx hb hX hbl hbA hS (ck_ixs (k := 2) (by omega) hLn) ea1 dL_law_212 ?_
  refine lv_aload_n hx hb dL_law_213 rfl (lv_at hl 4 rfl) ?_
  refine lv_iload hx hb dL_law_214 (lv_at hl 0 rfl) ?_
  refine lv_iconst (v := 3) hx hb dL_law_216 (by decide) ?_
  refine lv_iadd hx hb dL_law_217 ?_
  refine ck_sld hx hb hX hbl hbA hS (ck_ixs (k := 3) (by omega) hLn) ea2 dL_law_218 ?_
  refine lv_aload_n hx hb dL_law_219 rfl (lv_at hl 4 rfl) ?_
  refine lv_iload hx hb dL_law_220 (lv_at hl 0 rfl) ?_
  refine lv_iconst (v := 4) hx hb dL_law_222 (by decide) ?_
  refine lv_iadd hx hb dL_law_223 ?_
  refine ck_sld hx hb hX hbl hbA hS (ck_ixs (k := 4) (by omega) hLn) ea3 dL_law_224 ?_
  refine lv_aload_n hx hb dL_law_225 rfl (lv_at hl 4 rfl) ?_
  refine lv_iload hx hb dL_law_226 (lv_at hl 0 rfl) ?_
  refine lv_iconst (v := 5) hx hb dL_law_228 (by decide) ?_
  refine lv_iadd hx hb dL_law_229 ?_
  refine ck_sld hx hb hX hbl hbA hS (ck_ixs (k := 5) (by omega) hLn) ea4 dL_law_230 ?_
  refine lv_aload_n hx hb dL_law_231 rfl (lv_at hl 1 rfl) ?_
  refine ck_cLi (As := [.ref (ad 0), .int a0, .int a1, .int a2, .int a3, .int a4, .ref (ad 52)]) (rest := []) ⟨hx, hb, hml, hown, hts⟩ hKK (ct_L_record l G H ad (ck_Nn nc nr) F hW V L nc nr hC hlt (Or.inr (Or.inl (by decide))) g hF52 a0 a1 a2 a3 a4 (fun h => hJ.1.fresh nc (Nat.le_refl _) h) (ck_Nn.call hC.nc) ha1) (vx_cwSW 7 hts gL_law_L_record rfl rfl rfl (by decide +kernel) ⟨Nat.le_of_ble_eq_true rfl, Nat.le_of_ble_eq_true rfl⟩) rfl hl rfl (Nat.le_of_ble_eq_true rfl) dL_law_232 ⟨by show cells + 2 ≤ 601024; omega, by show slots + 14 ≤ 7293034; omega⟩ hS (fun kC H locs hP hz hS => ?_)
  obtain ⟨rC, VC, LC, ncC, nrC, N1, F1, g1, hRC, hg1, hF1, hNs, hW, hC1, ho⟩ := hP
  have hM1 : ck_M G ad V L nc nr t N1 F1 := hM.fE ho (fun i h1 h2 => hNs i (Or.inr (Or.inl (by omega))))
  have hKK := hKK0.keep hS.2.1
  refine lv_istore (lv' := [(5, .int kC), (4, .int (nI i)), (3, .ref (ad 52)), (2, .ref (ad 30)), (1, .ref (ad 0)), (0, .ref b)]) hx hb dL_law_235 hl (by decide) rfl (fun ls hl => ?_)
  refine lv_aload_n hx hb dL_law_237 rfl (lv_at hl 3 rfl) ?_
  refine lv_aload_n hx hb dL_law_238 rfl (lv_at hl 5 rfl) ?_
  refine lv_iload hx hb dL_law_239 (lv_at hl 1 rfl) ?_
  refine lv_iconst (v := 1) hx hb dL_law_241 (by decide) ?_
  refine lv_iadd hx hb dL_law_242 ?_
  refine ck_sld hx hb hX hbl hbA hS (ck_ixs (k := 1) (by omega) hLn) ea0 dL_law_243 ?_
  refine lv_aload_n hx hb dL_law_244 rfl (lv_at hl 5 rfl) ?_
  refine lv_iload hx hb dL_law_245 (lv_at hl 1 rfl) ?_
  refine lv_iconst (v := 2) hx hb dL_law_247 (by decide) ?_
  refine lv_iadd hx hb dL_law_248 ?_
  refine ck_sld hx hb hX hbl hbA hS (ck_ixs (k := 2) (by omega) hLn) ea1 dL_law_249 ?_
  refine lv_aload_n hx hb dL_law_250 rfl (lv_at hl 5 rfl) ?_
  refine lv_iload hx hb dL_law_251 (lv_at hl 1 rfl) ?_
  refine lv_iconst (v := 3) hx hb dL_law_253 (by decide) ?_
  refine lv_iadd hx hb dL_law_254 ?_
  refine ck_sld hx hb hX hbl hbA hS (ck_ixs (k := 3) (by omega) hLn) ea2 dL_law_255 ?_
  refine lv_aload_n hx hb dL_law_256 rfl (lv_at hl 5 rfl) ?_
  refine lv_iload hx hb dL_law_257 (lv_at hl 1 rfl) ?_
  refine lv_iconst (v := 4) hx hb dL_law_259 (by decide) ?_
  refine lv_iadd hx hb dL_law_260 ?_
  refine ck_sld hx hb hX hbl hbA hS (ck_ixs (k := 4) (by omega) hLn) ea3 dL_law_261 ?_
  refine lv_aload_n hx hb dL_law_262 rfl (lv_at hl 5 rfl) ?_
  refine lv_iload hx hb dL_law_263 (lv_at hl 1 rfl) ?_
  refine lv_iconst (v := 5) hx hb dL_law_265 (by decide) ?_
  refine lv_iadd hx hb dL_law_266 ?_
  refine ck_sld hx hb hX hbl hbA hS (ck_ixs (k := 5) (by omega) hLn) ea4 dL_law_267 ?_
  refine ck_cVw (As := [.int a0, .int a1, .int a2, .int a3, .int a4]) (rest := []) ⟨hx, hb, hml, hown, hts⟩ hKK (ct_X5_record l G H ad N1 F1 hW V L nc nr t hM1 hJ.1 a0 a1 a2 a3 a4) (cwV 5 hts gL_law_X5_record rfl rfl rfl (by decide +kernel) ⟨Nat.le_of_ble_eq_true rfl, Nat.le_of_ble_eq_true rfl⟩) (ck_recv hK hW (hM1.n 30 (by decide) (by decide)) hM1.f30 rfl) rfl hl rfl (Nat.le_of_ble_eq_true rfl) dL_law_268 ⟨by show cells + 2 + 0 ≤ 601024; omega, by show slots + 14 + 0 ≤ 7293034; omega⟩ hS (fun rM H locs hP hz hS => ?_)
  have hKK := hKK0.keep hS.2.1
  obtain ⟨t1, VM, LM, ncM, F2, hRM, hW, hM2, hsM⟩ := hP
  have hsyn : ck_syn n kC rC VC LC ncC nrC t1 rM VM LM ncM nr := by obtain ⟨a, rfl⟩ := hRC; exact ck_s_rec hC.nc hn hJ a hRM
  have hNew := ck_S.of hW hC1 hsM hM2 (hNs 52 (Or.inr (Or.inl (by decide)))) hF1 hsyn
  refine lv_istore (lv' := [(6, .int rM), (5, .int kC), (4, .int (nI i)), (3, .ref (ad 52)), (2, .ref (ad 30)), (1, .ref (ad 0)), (0, .ref b)]) hx hb dL_law_271 hl (by decide) rfl (fun ls hl => ?_)
  refine lv_aload_n hx hb dL_law_273 rfl (lv_at hl 4 rfl) ?_
  refine ck_cVi (As := []) (rest := []) ⟨hx, hb, hml, hown, hts⟩ hKK (ct_X5_thrown l G H ad N1 F2 hW VM LM ncM nr t1 hM2) (cwV 0 hts gL_law_X5_thrown rfl rfl rfl (by decide +kernel) ⟨Nat.le_of_ble_eq_true rfl, Nat.le_of_ble_eq_true rfl⟩) (ck_recv hK hW (hM2.n 30 (by decide) (by decide)) hM2.f30 rfl) rfl hl rfl (Nat.le_of_ble_eq_true rfl) dL_law_274 ⟨by show cells + 2 + 0 + 0 ≤ 601024; omega, by show slots + 14 + 0 + 0 ≤ 7293034; omega⟩ (fun r_t h_t => ?_)
  subst h_t
  refine lv_iload hx hb dL_law_277 (lv_at hl 1 rfl) ?_
  refine lv_icmp_eq (tgt := 284) hx hb dL_law_279 (by decide) (fun _ => ?_) (fun c9 => absurd hsyn.1 c9)
  refine lv_iload hx hb dL_law_284 (lv_at hl 1 rfl) ?_
  refine lv_if_ne (tgt := 301) hx hb dL_law_286 (by decide) (fun c8 => ?_) (fun c8 => ?_)
  · skip
    refine lv_goto (tgt := 1398) hx hb dL_law_301 (by decide) ?_
    refine W.widen (k := cells + 2) (n := slots + 14) (by omega) (by omega) ?_
    exact kk H locs ls hS hNew (lv_sub hl [2, 3, 4, 5, 6] rfl)
  · skip
    refine lv_aload_n hx hb dL_law_289 rfl (lv_at hl 3 rfl) ?_
    refine lv_iconst (v := 0) hx hb dL_law_290 (by decide) ?_
    refine ck_lald hx hb hK hW (hNs 52 (Or.inr (Or.inl (by decide)))) ((hsM 52 (by decide)).trans hF1) 0 (by decide) (by decide) (by decide) dL_law_291 ?_
    refine lv_iload hx hb dL_law_292 (lv_at hl 0 rfl) ?_
    refine lv_i2l (v := (rM : Int32).toInt64) hx hb dL_law_294 rfl ?_
    refine W.lcmp hx hb dL_law_295 ?_
    refine lv_if_eq (tgt := 301) hx hb dL_law_296 (by decide) (fun _ => ?_) (fun c9 => absurd ((ck_cmp1 _ _).mpr (by rw [hg1 c8, hsyn.2.1 c8])) c9)
    refine lv_goto (tgt := 1398) hx hb dL_law_301 (by decide) ?_
    refine W.widen (k := cells + 2) (n := slots + 14) (by omega) (by omega) ?_
    exact kk H locs ls hS hNew (lv_sub hl [2, 3, 4, 5, 6] rfl)
set_option maxHeartbeats 4000000 in
set_option maxRecDepth 100000 in
theorem cl_gaps {p : Program} {l : Launch} {e : Env} {s : State} {m : MethodId} {below : List Frame} {meth : Method} {c : Code} {G : ck_G} {b Ln : Nat} {xs : Nat → Int32} (hlt : l.stackTraces = false) (C0 : lw_At p s m meth c b Ln xs) (hKK0 : ck_K G s.heap s) (hGz : G.2.2.2 = s.heap.size) (hLn : Ln ≤ 3584) {i n x0 m0 o0 : Nat} (hi : i + 7 ≤ Ln) (hn : n < 100000) {H : Heap} {locs : List Loc} (hS : va_S (ck_A G) s.heap H locs) (hSt : ck_S G x0 m0 o0 n H) {ls : Array Slot} (hl : lv_has ls 7 [(4, .int (nI i)), (3, .ref o0), (2, .ref m0), (1, .ref x0), (0, .ref b)]) {cells slots : Nat} (hcl : cells + 2 ≤ 601024) (hsl : slots + 14 ≤ 7293034) {Q : State → Prop} (kk : ∀ (H : Heap) (locs : List Loc) (ls : Array Slot), va_S (ck_A G) s.heap H locs → ck_S G x0 m0 o0 (n + 1) H → lv_has ls 7 [(4, .int (nI i)), (3, .ref o0), (2, .ref m0), (1, .ref x0), (0, .ref b)] → W p l e room_1 s m #[.ref b] below meth c H locs (cells + 2) (slots + 14) Q (F0 m 1398 ls [])) : W p l e room_1 s m #[.ref b] below meth c H locs cells slots Q (F0 m 304 ls []) := by
  obtain ⟨hx, hb, hr, hml, hown, hts0, hX, hbl, hlocks, hgv⟩ := C0
  have hts : ∀ w ∈ wsL_law, w.before #[Value.ref b] s = true := fun w h => hts0 w (wsL_law_in w h)
  have hown : s.vm.findClass RL = some m.cls := hown
  have hbA : ¬ ck_A G b := by show ¬ (G.2.2.2 ≤ b); rw [hGz]; omega
  obtain ⟨ad, F, V, L, nc, nr, t, g, hW, hC, hM, hJ, hF52, rfl, rfl, rfl, ha1, ha2⟩ := hSt.fresh
  have hK := hKK0.1.1
  have hKK := hKK0.keep hS.2.1
  obtain ⟨a0, ea0⟩ : ∃ y, xs (nI i + 1).toNatClampNeg = y := ⟨_, rfl⟩
  refine lv_aload_n hx hb dL_law_304 rfl (lv_at hl 3 rfl) ?_
  refine lv_aload_n hx hb dL_law_305 rfl (lv_at hl 4 rfl) ?_
  refine lv_iload hx hb dL_law_306 (lv_at hl 0 rfl) ?_
  refine lv_iconst (v := 1) hx hb dL_law_308 (by decide) ?_
  refine lv_iadd hx hb dL_law_309 ?_
  refine ck_sld hx hb hX hbl hbA hS (ck_ixs (k := 1) (by omega) hLn) ea0 dL_law_310 ?_
  refine lv_aload_n hx hb dL_law_311 rfl (lv_at hl 1 rfl) ?_
  refine ck_cLi (As := [.ref (ad 0), .int a0, .ref (ad 52)]) (rest := []) ⟨hx, hb, hml, hown, hts⟩ hKK (ct_L_gaps l G H ad (ck_Nn nc nr) F hW V L nc nr hC hlt (Or.inr (Or.inl (by decide))) g hF52 a0) (vx_cwSW 3 hts gL_law_L_gaps rfl rfl rfl (by decide +kernel) ⟨Nat.le_of_ble_eq_true rfl, Nat.le_of_ble_eq_true rfl⟩) rfl hl rfl (Nat.le_of_ble_eq_true rfl) dL_law_312 ⟨by show cells + 1 ≤ 601024; omega, by show slots + 6 ≤ 7293034; omega⟩ hS (fun kC H locs hP hz hS => ?_)
  obtain ⟨rC, VC, LC, ncC, nrC, N1, F1, g1, hRC, hg1, hF1, hNs, hW, hC1, ho⟩ := hP
  have hM1 : ck_M G ad V L nc nr t N1 F1 := hM.fE ho (fun i h1 h2 => hNs i (Or.inr (Or.inl (by omega))))
  have hKK := hKK0.keep hS.2.1
  refine lv_istore (lv' := [(5, .int kC), (4, .int (nI i)), (3, .ref (ad 52)), (2, .ref (ad 30)), (1, .ref (ad 0)), (0, .ref b)]) hx hb dL_law_315 hl (by decide) rfl (fun ls hl => ?_)
  refine lv_aload_n hx hb dL_law_317 rfl (lv_at hl 3 rfl) ?_
  refine lv_aload_n hx hb dL_law_318 rfl (lv_at hl 5 rfl) ?_
  refine lv_iload hx hb dL_law_319 (lv_at hl 1 rfl) ?_
  refine lv_iconst (v := 1) hx hb dL_law_321 (by decide) ?_
  refine lv_iadd hx hb dL_law_322 ?_
  refine ck_sld hx hb hX hbl hbA hS (ck_ixs (k := 1) (by omega) hLn) ea0 dL_law_323 ?_
  refine ck_cVw (As := [.int a0]) (rest := []) ⟨hx, hb, hml, hown, hts⟩ hKK (ct_X5_gaps l G H ad N1 F1 hW V L nc nr t hM1 hJ.1 a0) (cwV 1 hts gL_law_X5_gaps rfl rfl rfl (by decide +kernel) ⟨Nat.le_of_ble_eq_true rfl, Nat.le_of_ble_eq_true rfl⟩) (ck_recv hK hW (hM1.n 30 (by decide) (by decide)) hM1.f30 rfl) rfl hl rfl (Nat.le_of_ble_eq_true rfl) dL_law_324 ⟨by show cells + 1 + 0 ≤ 601024; omega, by show slots + 6 + 0 ≤ 7293034; omega⟩ hS (fun rM H locs hP hz hS => ?_)
  have hKK := hKK0.keep hS.2.1
  obtain ⟨t1, F2, hRM, hW, hM2, hsM⟩ := hP
  have hsyn : ck_syn n kC rC VC LC ncC nrC t1 rM V L nc nr := ck_sy_ro (RC := fun k r => ck_Rgaps (V 14) (V 16) (V 17) a0 k r) (RM := fun k r => ck_Rgaps (V 14) (V 18) (V 19) a0 k r) hJ (fun _ _ _ _ a b => ck_u_gaps hJ.2.2 a b) hRC ⟨hRM, rfl, rfl, rfl, rfl⟩
  have hNew := ck_S.of hW hC1 hsM hM2 (hNs 52 (Or.inr (Or.inl (by decide)))) hF1 hsyn
  refine lv_istore (lv' := [(6, .int rM), (5, .int kC), (4, .int (nI i)), (3, .ref (ad 52)), (2, .ref (ad 30)), (1, .ref (ad 0)), (0, .ref b)]) hx hb dL_law_327 hl (by decide) rfl (fun ls hl => ?_)
  refine lv_aload_n hx hb dL_law_329 rfl (lv_at hl 4 rfl) ?_
  refine ck_cVi (As := []) (rest := []) ⟨hx, hb, hml, hown, hts⟩ hKK (ct_X5_thrown l G H ad N1 F2 hW V L nc nr t1 hM2) (cwV 0 hts gL_law_X5_thrown rfl rfl rfl (by decide +kernel) ⟨Nat.le_of_ble_eq_true rfl, Nat.le_of_ble_eq_true rfl⟩) (ck_recv hK hW (hM2.n 30 (by decide) (by decide)) hM2.f30 rfl) rfl hl rfl (Nat.le_of_ble_eq_true rfl) dL_law_330 ⟨by show cells + 1 + 0 + 0 ≤ 601024; omega, by show slots + 6 + 0 + 0 ≤ 7293034; omega⟩ (fun r_t h_t => ?_)
  subst h_t
  refine lv_iload hx hb dL_law_333 (lv_at hl 1 rfl) ?_
  refine lv_icmp_eq (tgt := 340) hx hb dL_law_335 (by decide) (fun _ => ?_) (fun c9 => absurd hsyn.1 c9)
  refine lv_iload hx hb dL_law_340 (lv_at hl 1 rfl) ?_
  refine lv_if_ne (tgt := 357) hx hb dL_law_342 (by decide) (fun c8 => ?_) (fun c8 => ?_)
  · skip
    refine lv_goto (tgt := 1398) hx hb dL_law_357 (by decide) ?_
    refine W.widen (k := cells + 2) (n := slots + 14) (by omega) (by omega) ?_
    exact kk H locs ls hS hNew (lv_sub hl [2, 3, 4, 5, 6] rfl)
  · skip
    refine lv_aload_n hx hb dL_law_345 rfl (lv_at hl 3 rfl) ?_
    refine lv_iconst (v := 0) hx hb dL_law_346 (by decide) ?_
    refine ck_lald hx hb hK hW (hNs 52 (Or.inr (Or.inl (by decide)))) ((hsM 52 (by decide)).trans hF1) 0 (by decide) (by decide) (by decide) dL_law_347 ?_
    refine lv_iload hx hb dL_law_348 (lv_at hl 0 rfl) ?_
    refine lv_i2l (v := (rM : Int32).toInt64) hx hb dL_law_350 rfl ?_
    refine W.lcmp hx hb dL_law_351 ?_
    refine lv_if_eq (tgt := 357) hx hb dL_law_352 (by decide) (fun _ => ?_) (fun c9 => absurd ((ck_cmp1 _ _).mpr (by rw [hg1 c8, hsyn.2.1 c8])) c9)
    refine lv_goto (tgt := 1398) hx hb dL_law_357 (by decide) ?_
    refine W.widen (k := cells + 2) (n := slots + 14) (by omega) (by omega) ?_
    exact kk H locs ls hS hNew (lv_sub hl [2, 3, 4, 5, 6] rfl)
set_option maxHeartbeats 4000000 in
set_option maxRecDepth 100000 in
theorem cl_doubles {p : Program} {l : Launch} {e : Env} {s : State} {m : MethodId} {below : List Frame} {meth : Method} {c : Code} {G : ck_G} {b Ln : Nat} {xs : Nat → Int32} (hlt : l.stackTraces = false) (C0 : lw_At p s m meth c b Ln xs) (hKK0 : ck_K G s.heap s) (hGz : G.2.2.2 = s.heap.size) (hLn : Ln ≤ 3584) {i n x0 m0 o0 : Nat} (hi : i + 7 ≤ Ln) (hn : n < 100000) {H : Heap} {locs : List Loc} (hS : va_S (ck_A G) s.heap H locs) (hSt : ck_S G x0 m0 o0 n H) {ls : Array Slot} (hl : lv_has ls 7 [(4, .int (nI i)), (3, .ref o0), (2, .ref m0), (1, .ref x0), (0, .ref b)]) {cells slots : Nat} (hcl : cells + 2 ≤ 601024) (hsl : slots + 14 ≤ 7293034) {Q : State → Prop} (kk : ∀ (H : Heap) (locs : List Loc) (ls : Array Slot), va_S (ck_A G) s.heap H locs → ck_S G x0 m0 o0 (n + 1) H → lv_has ls 7 [(4, .int (nI i)), (3, .ref o0), (2, .ref m0), (1, .ref x0), (0, .ref b)] → W p l e room_1 s m #[.ref b] below meth c H locs (cells + 2) (slots + 14) Q (F0 m 1398 ls [])) : W p l e room_1 s m #[.ref b] below meth c H locs cells slots Q (F0 m 360 ls []) := by
  obtain ⟨hx, hb, hr, hml, hown, hts0, hX, hbl, hlocks, hgv⟩ := C0
  have hts : ∀ w ∈ wsL_law, w.before #[Value.ref b] s = true := fun w h => hts0 w (wsL_law_in w h)
  have hown : s.vm.findClass RL = some m.cls := hown
  have hbA : ¬ ck_A G b := by show ¬ (G.2.2.2 ≤ b); rw [hGz]; omega
  obtain ⟨ad, F, V, L, nc, nr, t, g, hW, hC, hM, hJ, hF52, rfl, rfl, rfl, ha1, ha2⟩ := hSt.fresh
  have hK := hKK0.1.1
  have hKK := hKK0.keep hS.2.1
  obtain ⟨a0, ea0⟩ : ∃ y, xs (nI i + 1).toNatClampNeg = y := ⟨_, rfl⟩
  refine lv_aload_n hx hb dL_law_360 rfl (lv_at hl 3 rfl) ?_
  refine lv_aload_n hx hb dL_law_361 rfl (lv_at hl 4 rfl) ?_
  refine lv_iload hx hb dL_law_362 (lv_at hl 0 rfl) ?_
  refine lv_iconst (v := 1) hx hb dL_law_364 (by decide) ?_
  refine lv_iadd hx hb dL_law_365 ?_
  refine ck_sld hx hb hX hbl hbA hS (ck_ixs (k := 1) (by omega) hLn) ea0 dL_law_366 ?_
  refine lv_aload_n hx hb dL_law_367 rfl (lv_at hl 1 rfl) ?_
  refine ck_cLi (As := [.ref (ad 0), .int a0, .ref (ad 52)]) (rest := []) ⟨hx, hb, hml, hown, hts⟩ hKK (ct_L_doubles l G H ad (ck_Nn nc nr) F hW V L nc nr hC hlt (Or.inr (Or.inl (by decide))) g hF52 a0) (vx_cwSW 3 hts gL_law_L_doubles rfl rfl rfl (by decide +kernel) ⟨Nat.le_of_ble_eq_true rfl, Nat.le_of_ble_eq_true rfl⟩) rfl hl rfl (Nat.le_of_ble_eq_true rfl) dL_law_368 ⟨by show cells + 1 ≤ 601024; omega, by show slots + 6 ≤ 7293034; omega⟩ hS (fun kC H locs hP hz hS => ?_)
  obtain ⟨rC, VC, LC, ncC, nrC, N1, F1, g1, hRC, hg1, hF1, hNs, hW, hC1, ho⟩ := hP
  have hM1 : ck_M G ad V L nc nr t N1 F1 := hM.fE ho (fun i h1 h2 => hNs i (Or.inr (Or.inl (by omega))))
  have hKK := hKK0.keep hS.2.1
  refine lv_istore (lv' := [(5, .int kC), (4, .int (nI i)), (3, .ref (ad 52)), (2, .ref (ad 30)), (1, .ref (ad 0)), (0, .ref b)]) hx hb dL_law_371 hl (by decide) rfl (fun ls hl => ?_)
  refine lv_aload_n hx hb dL_law_373 rfl (lv_at hl 3 rfl) ?_
  refine lv_aload_n hx hb dL_law_374 rfl (lv_at hl 5 rfl) ?_
  refine lv_iload hx hb dL_law_375 (lv_at hl 1 rfl) ?_
  refine lv_iconst (v := 1) hx hb dL_law_377 (by decide) ?_
  refine lv_iadd hx hb dL_law_378 ?_
  refine ck_sld hx hb hX hbl hbA hS (ck_ixs (k := 1) (by omega) hLn) ea0 dL_law_379 ?_
  refine ck_cVw (As := [.int a0]) (rest := []) ⟨hx, hb, hml, hown, hts⟩ hKK (ct_X5_doubles l G H ad N1 F1 hW V L nc nr t hM1 hJ.1 a0) (cwV 1 hts gL_law_X5_doubles rfl rfl rfl (by decide +kernel) ⟨Nat.le_of_ble_eq_true rfl, Nat.le_of_ble_eq_true rfl⟩) (ck_recv hK hW (hM1.n 30 (by decide) (by decide)) hM1.f30 rfl) rfl hl rfl (Nat.le_of_ble_eq_true rfl) dL_law_380 ⟨by show cells + 1 + 0 ≤ 601024; omega, by show slots + 6 + 0 ≤ 7293034; omega⟩ hS (fun rM H locs hP hz hS => ?_)
  have hKK := hKK0.keep hS.2.1
  obtain ⟨t1, F2, hRM, hW, hM2, hsM⟩ := hP
  have hsyn : ck_syn n kC rC VC LC ncC nrC t1 rM V L nc nr := ck_sy_ro (RC := fun k r => ck_Rdbl (V 15) a0 k r) (RM := fun k r => ck_Rdbl (V 15) a0 k r) hJ (fun _ _ _ _ a b => ck_u_dbl a b) hRC ⟨hRM, rfl, rfl, rfl, rfl⟩
  have hNew := ck_S.of hW hC1 hsM hM2 (hNs 52 (Or.inr (Or.inl (by decide)))) hF1 hsyn
  refine lv_istore (lv' := [(6, .int rM), (5, .int kC), (4, .int (nI i)), (3, .ref (ad 52)), (2, .ref (ad 30)), (1, .ref (ad 0)), (0, .ref b)]) hx hb dL_law_383 hl (by decide) rfl (fun ls hl => ?_)
  refine lv_aload_n hx hb dL_law_385 rfl (lv_at hl 4 rfl) ?_
  refine ck_cVi (As := []) (rest := []) ⟨hx, hb, hml, hown, hts⟩ hKK (ct_X5_thrown l G H ad N1 F2 hW V L nc nr t1 hM2) (cwV 0 hts gL_law_X5_thrown rfl rfl rfl (by decide +kernel) ⟨Nat.le_of_ble_eq_true rfl, Nat.le_of_ble_eq_true rfl⟩) (ck_recv hK hW (hM2.n 30 (by decide) (by decide)) hM2.f30 rfl) rfl hl rfl (Nat.le_of_ble_eq_true rfl) dL_law_386 ⟨by show cells + 1 + 0 + 0 ≤ 601024; omega, by show slots + 6 + 0 + 0 ≤ 7293034; omega⟩ (fun r_t h_t => ?_)
  subst h_t
  refine lv_iload hx hb dL_law_389 (lv_at hl 1 rfl) ?_
  refine lv_icmp_eq (tgt := 396) hx hb dL_law_391 (by decide) (fun _ => ?_) (fun c9 => absurd hsyn.1 c9)
  refine lv_iload hx hb dL_law_396 (lv_at hl 1 rfl) ?_
  refine lv_if_ne (tgt := 413) hx hb dL_law_398 (by decide) (fun c8 => ?_) (fun c8 => ?_)
  · skip
    refine lv_goto (tgt := 1398) hx hb dL_law_413 (by decide) ?_
    refine W.widen (k := cells + 2) (n := slots + 14) (by omega) (by omega) ?_
    exact kk H locs ls hS hNew (lv_sub hl [2, 3, 4, 5, 6] rfl)
  · skip
    refine lv_aload_n hx hb dL_law_401 rfl (lv_at hl 3 rfl) ?_
    refine lv_iconst (v := 0) hx hb dL_law_402 (by decide) ?_
    refine ck_lald hx hb hK hW (hNs 52 (Or.inr (Or.inl (by decide)))) ((hsM 52 (by decide)).trans hF1) 0 (by decide) (by decide) (by decide) dL_law_403 ?_
    refine lv_iload hx hb dL_law_404 (lv_at hl 0 rfl) ?_
    refine lv_i2l (v := (rM : Int32).toInt64) hx hb dL_law_406 rfl ?_
    refine W.lcmp hx hb dL_law_407 ?_
    refine lv_if_eq (tgt := 413) hx hb dL_law_408 (by decide) (fun _ => ?_) (fun c9 => absurd ((ck_cmp1 _ _).mpr (by rw [hg1 c8, hsyn.2.1 c8])) c9)
    refine lv_goto (tgt := 1398) hx hb dL_law_413 (by decide) ?_
    refine W.widen (k := cells + 2) (n := slots + 14) (by omega) (by omega) ?_
    exact kk H locs ls hS hNew (lv_sub hl [2, 3, 4, 5, 6] rfl)
set_option maxHeartbeats 4000000 in
set_option maxRecDepth 100000 in
theorem cl_calls {p : Program} {l : Launch} {e : Env} {s : State} {m : MethodId} {below : List Frame} {meth : Method} {c : Code} {G : ck_G} {b Ln : Nat} {xs : Nat → Int32} (hlt : l.stackTraces = false) (C0 : lw_At p s m meth c b Ln xs) (hKK0 : ck_K G s.heap s) (hGz : G.2.2.2 = s.heap.size) (hLn : Ln ≤ 3584) {i n x0 m0 o0 : Nat} (hi : i + 7 ≤ Ln) (hn : n < 100000) {H : Heap} {locs : List Loc} (hS : va_S (ck_A G) s.heap H locs) (hSt : ck_S G x0 m0 o0 n H) {ls : Array Slot} (hl : lv_has ls 7 [(4, .int (nI i)), (3, .ref o0), (2, .ref m0), (1, .ref x0), (0, .ref b)]) {cells slots : Nat} (hcl : cells + 2 ≤ 601024) (hsl : slots + 14 ≤ 7293034) {Q : State → Prop} (kk : ∀ (H : Heap) (locs : List Loc) (ls : Array Slot), va_S (ck_A G) s.heap H locs → ck_S G x0 m0 o0 (n + 1) H → lv_has ls 7 [(4, .int (nI i)), (3, .ref o0), (2, .ref m0), (1, .ref x0), (0, .ref b)] → W p l e room_1 s m #[.ref b] below meth c H locs (cells + 2) (slots + 14) Q (F0 m 1398 ls [])) : W p l e room_1 s m #[.ref b] below meth c H locs cells slots Q (F0 m 416 ls []) := by
  obtain ⟨hx, hb, hr, hml, hown, hts0, hX, hbl, hlocks, hgv⟩ := C0
  have hts : ∀ w ∈ wsL_law, w.before #[Value.ref b] s = true := fun w h => hts0 w (wsL_law_in w h)
  have hown : s.vm.findClass RL = some m.cls := hown
  have hbA : ¬ ck_A G b := by show ¬ (G.2.2.2 ≤ b); rw [hGz]; omega
  obtain ⟨ad, F, V, L, nc, nr, t, g, hW, hC, hM, hJ, hF52, rfl, rfl, rfl, ha1, ha2⟩ := hSt.fresh
  have hK := hKK0.1.1
  have hKK := hKK0.keep hS.2.1
  refine lv_aload_n hx hb dL_law_416 rfl (lv_at hl 3 rfl) ?_
  refine ck_cVi (As := []) (rest := []) ⟨hx, hb, hml, hown, hts⟩ hKK (ct_X4_calls l G H ad (ck_Nn nc nr) F hW V L nc nr hC) (cwV 0 hts gL_law_X4_calls rfl rfl rfl (by decide +kernel) ⟨Nat.le_of_ble_eq_true rfl, Nat.le_of_ble_eq_true rfl⟩) (ck_recv hK hW (hC.n 0 (by decide)) hC.f0 rfl) rfl hl rfl (Nat.le_of_ble_eq_true rfl) dL_law_417 ⟨by show cells + 0 ≤ 601024; omega, by show slots + 0 ≤ 7293034; omega⟩ (fun r_1 h_1 => ?_)
  subst h_1
  refine lv_aload_n hx hb dL_law_420 rfl (lv_at hl 2 rfl) ?_
  refine ck_cVw (As := []) (rest := [.int (nI nc)]) ⟨hx, hb, hml, hown, hts⟩ hKK (ct_X5_calls l G H ad (ck_Nn nc nr) F hW V L nc nr t hM hJ.1) (cwV 0 hts gL_law_X5_calls rfl rfl rfl (by decide +kernel) ⟨Nat.le_of_ble_eq_true rfl, Nat.le_of_ble_eq_true rfl⟩) (ck_recv hK hW (hM.n 30 (by decide) (by decide)) hM.f30 rfl) rfl hl rfl (Nat.le_of_ble_eq_true rfl) dL_law_421 ⟨by show cells + 0 ≤ 601024; omega, by show slots + 0 ≤ 7293034; omega⟩ hS (fun rM H locs hP hz hS => ?_)
  have hKK := hKK0.keep hS.2.1
  obtain ⟨t1, F2, ⟨ht1, hrM⟩, hW, hM2, hsM⟩ := hP
  have hsyn : ck_syn n 0 0 V L nc nr 0 0 V L nc nr := ⟨rfl, fun _ => rfl, rfl, rfl, rfl, fun _ _ => rfl, by rw [ck_mg_same]; exact hJ.mono (Nat.le_succ n)⟩
  have hNew := ck_S.of hW hC hsM hM2 (Or.inr (Or.inl (by decide))) hF52 hsyn
  refine lv_icmp_eq (tgt := 1398) hx hb dL_law_424 (by decide) (fun _ => ?_) (fun c9 => absurd hrM.symm c9)
  refine W.widen (k := cells + 2) (n := slots + 14) (by omega) (by omega) ?_
  exact kk H locs ls hS hNew (lv_sub hl [0, 1, 2, 3, 4] rfl)
set_option maxHeartbeats 4000000 in
set_option maxRecDepth 100000 in
theorem cl_legs {p : Program} {l : Launch} {e : Env} {s : State} {m : MethodId} {below : List Frame} {meth : Method} {c : Code} {G : ck_G} {b Ln : Nat} {xs : Nat → Int32} (hlt : l.stackTraces = false) (C0 : lw_At p s m meth c b Ln xs) (hKK0 : ck_K G s.heap s) (hGz : G.2.2.2 = s.heap.size) (hLn : Ln ≤ 3584) {i n x0 m0 o0 : Nat} (hi : i + 7 ≤ Ln) (hn : n < 100000) {H : Heap} {locs : List Loc} (hS : va_S (ck_A G) s.heap H locs) (hSt : ck_S G x0 m0 o0 n H) {ls : Array Slot} (hl : lv_has ls 7 [(4, .int (nI i)), (3, .ref o0), (2, .ref m0), (1, .ref x0), (0, .ref b)]) {cells slots : Nat} (hcl : cells + 2 ≤ 601024) (hsl : slots + 14 ≤ 7293034) {Q : State → Prop} (kk : ∀ (H : Heap) (locs : List Loc) (ls : Array Slot), va_S (ck_A G) s.heap H locs → ck_S G x0 m0 o0 (n + 1) H → lv_has ls 7 [(4, .int (nI i)), (3, .ref o0), (2, .ref m0), (1, .ref x0), (0, .ref b)] → W p l e room_1 s m #[.ref b] below meth c H locs (cells + 2) (slots + 14) Q (F0 m 1398 ls [])) : W p l e room_1 s m #[.ref b] below meth c H locs cells slots Q (F0 m 429 ls []) := by
  obtain ⟨hx, hb, hr, hml, hown, hts0, hX, hbl, hlocks, hgv⟩ := C0
  have hts : ∀ w ∈ wsL_law, w.before #[Value.ref b] s = true := fun w h => hts0 w (wsL_law_in w h)
  have hown : s.vm.findClass RL = some m.cls := hown
  have hbA : ¬ ck_A G b := by show ¬ (G.2.2.2 ≤ b); rw [hGz]; omega
  obtain ⟨ad, F, V, L, nc, nr, t, g, hW, hC, hM, hJ, hF52, rfl, rfl, rfl, ha1, ha2⟩ := hSt.fresh
  have hK := hKK0.1.1
  have hKK := hKK0.keep hS.2.1
  obtain ⟨a0, ea0⟩ : ∃ y, xs (nI i + 1).toNatClampNeg = y := ⟨_, rfl⟩
  refine lv_aload_n hx hb dL_law_429 rfl (lv_at hl 3 rfl) ?_
  refine lv_aload_n hx hb dL_law_430 rfl (lv_at hl 4 rfl) ?_
  refine lv_iload hx hb dL_law_431 (lv_at hl 0 rfl) ?_
  refine lv_iconst (v := 1) hx hb dL_law_433 (by decide) ?_
  refine lv_iadd hx hb dL_law_434 ?_
  refine ck_sld hx hb hX hbl hbA hS (ck_ixs (k := 1) (by omega) hLn) ea0 dL_law_435 ?_
  refine lv_aload_n hx hb dL_law_436 rfl (lv_at hl 1 rfl) ?_
  refine ck_cLi (As := [.ref (ad 0), .int a0, .ref (ad 52)]) (rest := []) ⟨hx, hb, hml, hown, hts⟩ hKK (ct_L_legs l G H ad (ck_Nn nc nr) F hW V L nc nr hC hlt (Or.inr (Or.inl (by decide))) g hF52 a0) (vx_cwSW 3 hts gL_law_L_legs rfl rfl rfl (by decide +kernel) ⟨Nat.le_of_ble_eq_true rfl, Nat.le_of_ble_eq_true rfl⟩) rfl hl rfl (Nat.le_of_ble_eq_true rfl) dL_law_437 ⟨by show cells + 1 ≤ 601024; omega, by show slots + 6 ≤ 7293034; omega⟩ hS (fun kC H locs hP hz hS => ?_)
  obtain ⟨rC, VC, LC, ncC, nrC, N1, F1, g1, hRC, hg1, hF1, hNs, hW, hC1, ho⟩ := hP
  have hM1 : ck_M G ad V L nc nr t N1 F1 := hM.fE ho (fun i h1 h2 => hNs i (Or.inr (Or.inl (by omega))))
  have hKK := hKK0.keep hS.2.1
  refine lv_istore (lv' := [(5, .int kC), (4, .int (nI i)), (3, .ref (ad 52)), (2, .ref (ad 30)), (1, .ref (ad 0)), (0, .ref b)]) hx hb dL_law_440 hl (by decide) rfl (fun ls hl => ?_)
  refine lv_aload_n hx hb dL_law_442 rfl (lv_at hl 3 rfl) ?_
  refine lv_aload_n hx hb dL_law_443 rfl (lv_at hl 5 rfl) ?_
  refine lv_iload hx hb dL_law_444 (lv_at hl 1 rfl) ?_
  refine lv_iconst (v := 1) hx hb dL_law_446 (by decide) ?_
  refine lv_iadd hx hb dL_law_447 ?_
  refine ck_sld hx hb hX hbl hbA hS (ck_ixs (k := 1) (by omega) hLn) ea0 dL_law_448 ?_
  refine ck_cVw (As := [.int a0]) (rest := []) ⟨hx, hb, hml, hown, hts⟩ hKK (ct_X5_legs l G H ad N1 F1 hW V L nc nr t hM1 hJ.1 a0) (cwV 1 hts gL_law_X5_legs rfl rfl rfl (by decide +kernel) ⟨Nat.le_of_ble_eq_true rfl, Nat.le_of_ble_eq_true rfl⟩) (ck_recv hK hW (hM1.n 30 (by decide) (by decide)) hM1.f30 rfl) rfl hl rfl (Nat.le_of_ble_eq_true rfl) dL_law_449 ⟨by show cells + 1 + 0 ≤ 601024; omega, by show slots + 6 + 0 ≤ 7293034; omega⟩ hS (fun rM H locs hP hz hS => ?_)
  have hKK := hKK0.keep hS.2.1
  obtain ⟨t1, F2, hRM, hW, hM2, hsM⟩ := hP
  have hsyn : ck_syn n kC rC VC LC ncC nrC t1 rM V L nc nr := ck_sy_ro (RC := fun k r => ck_Rcall nc (V 3) a0 k r) (RM := fun k r => ck_Rcall nc (V 3) a0 k r) hJ (fun _ _ _ _ a b => ck_u_call hC.nc a b) hRC ⟨hRM, rfl, rfl, rfl, rfl⟩
  have hNew := ck_S.of hW hC1 hsM hM2 (hNs 52 (Or.inr (Or.inl (by decide)))) hF1 hsyn
  refine lv_istore (lv' := [(6, .int rM), (5, .int kC), (4, .int (nI i)), (3, .ref (ad 52)), (2, .ref (ad 30)), (1, .ref (ad 0)), (0, .ref b)]) hx hb dL_law_452 hl (by decide) rfl (fun ls hl => ?_)
  refine lv_aload_n hx hb dL_law_454 rfl (lv_at hl 4 rfl) ?_
  refine ck_cVi (As := []) (rest := []) ⟨hx, hb, hml, hown, hts⟩ hKK (ct_X5_thrown l G H ad N1 F2 hW V L nc nr t1 hM2) (cwV 0 hts gL_law_X5_thrown rfl rfl rfl (by decide +kernel) ⟨Nat.le_of_ble_eq_true rfl, Nat.le_of_ble_eq_true rfl⟩) (ck_recv hK hW (hM2.n 30 (by decide) (by decide)) hM2.f30 rfl) rfl hl rfl (Nat.le_of_ble_eq_true rfl) dL_law_455 ⟨by show cells + 1 + 0 + 0 ≤ 601024; omega, by show slots + 6 + 0 + 0 ≤ 7293034; omega⟩ (fun r_t h_t => ?_)
  subst h_t
  refine lv_iload hx hb dL_law_458 (lv_at hl 1 rfl) ?_
  refine lv_icmp_eq (tgt := 465) hx hb dL_law_460 (by decide) (fun _ => ?_) (fun c9 => absurd hsyn.1 c9)
  refine lv_iload hx hb dL_law_465 (lv_at hl 1 rfl) ?_
  refine lv_if_ne (tgt := 482) hx hb dL_law_467 (by decide) (fun c8 => ?_) (fun c8 => ?_)
  · skip
    refine lv_goto (tgt := 1398) hx hb dL_law_482 (by decide) ?_
    refine W.widen (k := cells + 2) (n := slots + 14) (by omega) (by omega) ?_
    exact kk H locs ls hS hNew (lv_sub hl [2, 3, 4, 5, 6] rfl)
  · skip
    refine lv_aload_n hx hb dL_law_470 rfl (lv_at hl 3 rfl) ?_
    refine lv_iconst (v := 0) hx hb dL_law_471 (by decide) ?_
    refine ck_lald hx hb hK hW (hNs 52 (Or.inr (Or.inl (by decide)))) ((hsM 52 (by decide)).trans hF1) 0 (by decide) (by decide) (by decide) dL_law_472 ?_
    refine lv_iload hx hb dL_law_473 (lv_at hl 0 rfl) ?_
    refine lv_i2l (v := (rM : Int32).toInt64) hx hb dL_law_475 rfl ?_
    refine W.lcmp hx hb dL_law_476 ?_
    refine lv_if_eq (tgt := 482) hx hb dL_law_477 (by decide) (fun _ => ?_) (fun c9 => absurd ((ck_cmp1 _ _).mpr (by rw [hg1 c8, hsyn.2.1 c8])) c9)
    refine lv_goto (tgt := 1398) hx hb dL_law_482 (by decide) ?_
    refine W.widen (k := cells + 2) (n := slots + 14) (by omega) (by omega) ?_
    exact kk H locs ls hS hNew (lv_sub hl [2, 3, 4, 5, 6] rfl)
set_option maxHeartbeats 4000000 in
set_option maxRecDepth 100000 in
theorem cl_length {p : Program} {l : Launch} {e : Env} {s : State} {m : MethodId} {below : List Frame} {meth : Method} {c : Code} {G : ck_G} {b Ln : Nat} {xs : Nat → Int32} (hlt : l.stackTraces = false) (C0 : lw_At p s m meth c b Ln xs) (hKK0 : ck_K G s.heap s) (hGz : G.2.2.2 = s.heap.size) (hLn : Ln ≤ 3584) {i n x0 m0 o0 : Nat} (hi : i + 7 ≤ Ln) (hn : n < 100000) {H : Heap} {locs : List Loc} (hS : va_S (ck_A G) s.heap H locs) (hSt : ck_S G x0 m0 o0 n H) {ls : Array Slot} (hl : lv_has ls 7 [(4, .int (nI i)), (3, .ref o0), (2, .ref m0), (1, .ref x0), (0, .ref b)]) {cells slots : Nat} (hcl : cells + 2 ≤ 601024) (hsl : slots + 14 ≤ 7293034) {Q : State → Prop} (kk : ∀ (H : Heap) (locs : List Loc) (ls : Array Slot), va_S (ck_A G) s.heap H locs → ck_S G x0 m0 o0 (n + 1) H → lv_has ls 7 [(4, .int (nI i)), (3, .ref o0), (2, .ref m0), (1, .ref x0), (0, .ref b)] → W p l e room_1 s m #[.ref b] below meth c H locs (cells + 2) (slots + 14) Q (F0 m 1398 ls [])) : W p l e room_1 s m #[.ref b] below meth c H locs cells slots Q (F0 m 485 ls []) := by
  obtain ⟨hx, hb, hr, hml, hown, hts0, hX, hbl, hlocks, hgv⟩ := C0
  have hts : ∀ w ∈ wsL_law, w.before #[Value.ref b] s = true := fun w h => hts0 w (wsL_law_in w h)
  have hown : s.vm.findClass RL = some m.cls := hown
  have hbA : ¬ ck_A G b := by show ¬ (G.2.2.2 ≤ b); rw [hGz]; omega
  obtain ⟨ad, F, V, L, nc, nr, t, g, hW, hC, hM, hJ, hF52, rfl, rfl, rfl, ha1, ha2⟩ := hSt.fresh
  have hK := hKK0.1.1
  have hKK := hKK0.keep hS.2.1
  obtain ⟨a0, ea0⟩ : ∃ y, xs (nI i + 1).toNatClampNeg = y := ⟨_, rfl⟩
  refine lv_aload_n hx hb dL_law_485 rfl (lv_at hl 3 rfl) ?_
  refine lv_aload_n hx hb dL_law_486 rfl (lv_at hl 4 rfl) ?_
  refine lv_iload hx hb dL_law_487 (lv_at hl 0 rfl) ?_
  refine lv_iconst (v := 1) hx hb dL_law_489 (by decide) ?_
  refine lv_iadd hx hb dL_law_490 ?_
  refine ck_sld hx hb hX hbl hbA hS (ck_ixs (k := 1) (by omega) hLn) ea0 dL_law_491 ?_
  refine lv_aload_n hx hb dL_law_492 rfl (lv_at hl 1 rfl) ?_
  refine ck_cLi (As := [.ref (ad 0), .int a0, .ref (ad 52)]) (rest := []) ⟨hx, hb, hml, hown, hts⟩ hKK (ct_L_length l G H ad (ck_Nn nc nr) F hW V L nc nr hC hlt (Or.inr (Or.inl (by decide))) g hF52 a0) (vx_cwSW 3 hts gL_law_L_length rfl rfl rfl (by decide +kernel) ⟨Nat.le_of_ble_eq_true rfl, Nat.le_of_ble_eq_true rfl⟩) rfl hl rfl (Nat.le_of_ble_eq_true rfl) dL_law_493 ⟨by show cells + 1 ≤ 601024; omega, by show slots + 6 ≤ 7293034; omega⟩ hS (fun kC H locs hP hz hS => ?_)
  obtain ⟨rC, VC, LC, ncC, nrC, N1, F1, g1, hRC, hg1, hF1, hNs, hW, hC1, ho⟩ := hP
  have hM1 : ck_M G ad V L nc nr t N1 F1 := hM.fE ho (fun i h1 h2 => hNs i (Or.inr (Or.inl (by omega))))
  have hKK := hKK0.keep hS.2.1
  refine lv_istore (lv' := [(5, .int kC), (4, .int (nI i)), (3, .ref (ad 52)), (2, .ref (ad 30)), (1, .ref (ad 0)), (0, .ref b)]) hx hb dL_law_496 hl (by decide) rfl (fun ls hl => ?_)
  refine lv_aload_n hx hb dL_law_498 rfl (lv_at hl 3 rfl) ?_
  refine lv_aload_n hx hb dL_law_499 rfl (lv_at hl 5 rfl) ?_
  refine lv_iload hx hb dL_law_500 (lv_at hl 1 rfl) ?_
  refine lv_iconst (v := 1) hx hb dL_law_502 (by decide) ?_
  refine lv_iadd hx hb dL_law_503 ?_
  refine ck_sld hx hb hX hbl hbA hS (ck_ixs (k := 1) (by omega) hLn) ea0 dL_law_504 ?_
  refine ck_cVw (As := [.int a0]) (rest := []) ⟨hx, hb, hml, hown, hts⟩ hKK (ct_X5_length l G H ad N1 F1 hW V L nc nr t hM1 hJ.1 a0) (cwV 1 hts gL_law_X5_length rfl rfl rfl (by decide +kernel) ⟨Nat.le_of_ble_eq_true rfl, Nat.le_of_ble_eq_true rfl⟩) (ck_recv hK hW (hM1.n 30 (by decide) (by decide)) hM1.f30 rfl) rfl hl rfl (Nat.le_of_ble_eq_true rfl) dL_law_505 ⟨by show cells + 1 + 0 ≤ 601024; omega, by show slots + 6 + 0 ≤ 7293034; omega⟩ hS (fun rM H locs hP hz hS => ?_)
  have hKK := hKK0.keep hS.2.1
  obtain ⟨t1, F2, hRM, hW, hM2, hsM⟩ := hP
  have hsyn : ck_syn n kC rC VC LC ncC nrC t1 rM V L nc nr := ck_sy_ro (RC := fun k r => ck_Rcall nc (V 4) a0 k r) (RM := fun k r => ck_Rcall nc (V 4) a0 k r) hJ (fun _ _ _ _ a b => ck_u_call hC.nc a b) hRC ⟨hRM, rfl, rfl, rfl, rfl⟩
  have hNew := ck_S.of hW hC1 hsM hM2 (hNs 52 (Or.inr (Or.inl (by decide)))) hF1 hsyn
  refine lv_istore (lv' := [(6, .int rM), (5, .int kC), (4, .int (nI i)), (3, .ref (ad 52)), (2, .ref (ad 30)), (1, .ref (ad 0)), (0, .ref b)]) hx hb dL_law_508 hl (by decide) rfl (fun ls hl => ?_)
  refine lv_aload_n hx hb dL_law_510 rfl (lv_at hl 4 rfl) ?_
  refine ck_cVi (As := []) (rest := []) ⟨hx, hb, hml, hown, hts⟩ hKK (ct_X5_thrown l G H ad N1 F2 hW V L nc nr t1 hM2) (cwV 0 hts gL_law_X5_thrown rfl rfl rfl (by decide +kernel) ⟨Nat.le_of_ble_eq_true rfl, Nat.le_of_ble_eq_true rfl⟩) (ck_recv hK hW (hM2.n 30 (by decide) (by decide)) hM2.f30 rfl) rfl hl rfl (Nat.le_of_ble_eq_true rfl) dL_law_511 ⟨by show cells + 1 + 0 + 0 ≤ 601024; omega, by show slots + 6 + 0 + 0 ≤ 7293034; omega⟩ (fun r_t h_t => ?_)
  subst h_t
  refine lv_iload hx hb dL_law_514 (lv_at hl 1 rfl) ?_
  refine lv_icmp_eq (tgt := 521) hx hb dL_law_516 (by decide) (fun _ => ?_) (fun c9 => absurd hsyn.1 c9)
  refine lv_iload hx hb dL_law_521 (lv_at hl 1 rfl) ?_
  refine lv_if_ne (tgt := 538) hx hb dL_law_523 (by decide) (fun c8 => ?_) (fun c8 => ?_)
  · skip
    refine lv_goto (tgt := 1398) hx hb dL_law_538 (by decide) ?_
    refine W.widen (k := cells + 2) (n := slots + 14) (by omega) (by omega) ?_
    exact kk H locs ls hS hNew (lv_sub hl [2, 3, 4, 5, 6] rfl)
  · skip
    refine lv_aload_n hx hb dL_law_526 rfl (lv_at hl 3 rfl) ?_
    refine lv_iconst (v := 0) hx hb dL_law_527 (by decide) ?_
    refine ck_lald hx hb hK hW (hNs 52 (Or.inr (Or.inl (by decide)))) ((hsM 52 (by decide)).trans hF1) 0 (by decide) (by decide) (by decide) dL_law_528 ?_
    refine lv_iload hx hb dL_law_529 (lv_at hl 0 rfl) ?_
    refine lv_i2l (v := (rM : Int32).toInt64) hx hb dL_law_531 rfl ?_
    refine W.lcmp hx hb dL_law_532 ?_
    refine lv_if_eq (tgt := 538) hx hb dL_law_533 (by decide) (fun _ => ?_) (fun c9 => absurd ((ck_cmp1 _ _).mpr (by rw [hg1 c8, hsyn.2.1 c8])) c9)
    refine lv_goto (tgt := 1398) hx hb dL_law_538 (by decide) ?_
    refine W.widen (k := cells + 2) (n := slots + 14) (by omega) (by omega) ?_
    exact kk H locs ls hS hNew (lv_sub hl [2, 3, 4, 5, 6] rfl)
