-- ===== the law: what stands between two calls =====
def ck_Nn (nc nr : Nat) : Nat → Prop := fun i => i < 23 ∨ (30 ≤ i ∧ i < 53) ∨ (100 ≤ i ∧ i < 100 + nc) ∨ (200 ≤ i ∧ i < 200 + nr)
/-- n calls done: the class at x0, the reference at m0, out at o0 -/
def ck_S (G : ck_G) (x0 m0 o0 n : Nat) (H : Heap) : Prop := ∃ (ad : Nat → Nat) (F : Nat → va_E) (V : Nat → Nat → Int32) (L : Nat → Nat → Int64) (nc nr : Nat) (t : Int32) (g : Nat → Int64), ck_W G ad (ck_Nn nc nr) F H ∧ ck_C G ad V L nc nr (ck_Nn nc nr) F ∧ ck_M G ad V L nc nr t (ck_Nn nc nr) F ∧ ck_J V nc nr n ∧ F 52 = .inl (G.2.1 1, 1, .inr (.inl g)) ∧ x0 = ad 0 ∧ m0 = ad 30 ∧ o0 = ad 52
theorem ck_S.fresh {G : ck_G} {x0 m0 o0 n : Nat} {H : Heap} (h : ck_S G x0 m0 o0 n H) : ∃ (ad : Nat → Nat) (F : Nat → va_E) (V : Nat → Nat → Int32) (L : Nat → Nat → Int64) (nc nr : Nat) (t : Int32) (g : Nat → Int64), ck_W G ad (ck_Nn nc nr) F H ∧ ck_C G ad V L nc nr (ck_Nn nc nr) F ∧ ck_M G ad V L nc nr t (ck_Nn nc nr) F ∧ ck_J V nc nr n ∧ F 52 = .inl (G.2.1 1, 1, .inr (.inl g)) ∧ x0 = ad 0 ∧ m0 = ad 30 ∧ o0 = ad 52 ∧ ad (100 + nc) = H.size ∧ ad (200 + nr) = H.size := by
  obtain ⟨ad, F, V, L, nc, nr, t, g, hW, hC, hM, hJ, hF, e1, e2, e3⟩ := h
  have hn := hC.nc
  have q : ∀ i, ck_Nn nc nr i → (fun i => if i = 100 + nc ∨ i = 200 + nr then H.size else ad i) i = ad i := fun i hi => if_neg (by unfold ck_Nn at hi; omega)
  exact ⟨_, F, V, L, nc, nr, t, g, hW.adE q, hC.adE q, hM.adE q, hJ, hF, e1.trans (q 0 (Or.inl (by decide))).symm, e2.trans (q 30 (Or.inr (Or.inl (by decide)))).symm, e3.trans (q 52 (Or.inr (Or.inl (by decide)))).symm, if_pos (Or.inl rfl), if_pos (Or.inr rfl)⟩
theorem ck_S.of {G : ck_G} {ad : Nat → Nat} {N : Nat → Prop} {F F1 : Nat → va_E} {H : Heap} {VC VM : Nat → Nat → Int32} {LC LM : Nat → Nat → Int64} {ncC nrC ncM nrM n : Nat} {t kC rC kM rM : Int32} {g : Nat → Int64} (hW : ck_W G ad N F H) (hC : ck_C G ad VC LC ncC nrC N F1) (hsM : ck_sM F1 F) (hM : ck_M G ad VM LM ncM nrM t N F) (hN52 : N 52) (hF : F1 52 = .inl (G.2.1 1, 1, .inr (.inl g))) (hs : ck_syn n kC rC VC LC ncC nrC kM rM VM LM ncM nrM) : ck_S G (ad 0) (ad 30) (ad 52) (n + 1) H := by
  obtain ⟨-, -, e1, e2, e3, e16, hJ⟩ := hs
  subst e1 e2 e3
  have hle : ∀ i, ck_Nn ncM nrM i → N i := fun i hi => by
    rcases hi with h | ⟨h1, h2⟩ | ⟨h1, h2⟩ | ⟨h1, h2⟩
    · exact hC.n i h
    · by_cases c : i = 52
      · rw [c]; exact hN52
      · exact hM.n i h1 (by omega)
    · have := hC.ncall (i - 100) (by omega)
      rwa [show 100 + (i - 100) = i by omega] at this
    · have := hC.nrate (i - 200) (by omega)
      rwa [show 200 + (i - 200) = i by omega] at this
  have hC2 : ck_C G ad VC LM ncM nrM (ck_Nn ncM nrM) F := (hC.fE (fun i hi => hsM i (by omega))).nE (fun i hi => Or.inl hi) (fun k hk => Or.inr (Or.inr (Or.inl (by omega)))) (fun k hk => Or.inr (Or.inr (Or.inr (by omega))))
  exact ⟨ad, F, ck_mg VC VM, _, _, _, t, g, hW.less hle, hC2.ext (ck_mg_C e16), (hM.fE (fun _ _ _ => rfl) (fun i h1 h2 => Or.inr (Or.inl (by omega)))).ext ck_mg_M, hJ, (hsM 52 (by decide)).trans hF, rfl, rfl, rfl⟩
section CKM
variable {p : Program} {l : Launch} {e : Env} {R : Room} {s : State} {m : MethodId} {args : Array Value} {below : List Frame} {meth : Method} {c : Code} {H H0 : Heap} {locs : List Loc} {cells slots mc ms : Nat} {Q : State → Prop}
variable {y : MethodName} {bytes cc : ByteArray} {maxL nL n index : Nat} {ret : Option FieldType} {ws : List Cond} {rm : Room} {Ts : List Cond} {own C : String} {b : Addr} {pc : Nat} {ls : Array Slot} {st rest As : List Value} {lv : List (Nat × Value)} {G : ck_G} {ad : Nat → Nat} {N : Nat → Prop} {F : Nat → va_E}
/-- a call of one of the law's wrappers -/
theorem ck_cLi {post : Int32 → Heap → Prop} {hh : List (Nat × Nat × Nat × Nat)} (S : CallFix p m c cc nL s args Ts own) (hKK : ck_K G H s) (hM : vx_Met l y ws rm (ck_P G H As) (ck_Qi G post) (fun _ _ _ => False) mc ms (ck_A G)) (cw : vx_CSW R s args own index y bytes maxL ret hh ws rm mc ms n) (hn : As.length = n) (hl : lv_has ls nL lv) (hst : st = As.reverse ++ rest) (hcat : (rest.map fun v => v.category).sum ≤ 8) (hdg : decode cc pc = .ok (.invokestatic index, 3)) (hf : cells + mc ≤ R.cells ∧ slots + ms ≤ R.slots) (hS : va_S (ck_A G) H0 H locs)
    (kk : ∀ (r : Int32) (H1 : Heap) (locs1 : List Loc), post r H1 → H.size ≤ H1.size → va_S (ck_A G) H0 H1 locs1 → W p l e R s m args below meth c H1 locs1 (cells + mc) (slots + ms) Q (F0 m (pc + 3) ls (.int r :: rest))) : W p l e R s m args below meth c H locs cells slots Q (F0 m pc ls st) := by
  intro T hT X
  rcases (vx_runSX (g := F0 m pc ls st) S hM cw ⟨ck_blind, ck_pre hKK⟩ rfl hn hl.1 hst (lv_room hcat) hdg hf) T hT X with ⟨v, st₀, t, T', L, h0, X', hL, e1, e2, ⟨⟨r, hv, hp⟩, hF⟩, st⟩ | ⟨q, st₀, t, T', L, E, ce, h0, X', hL, e1, e2, hno, -⟩
  · cases hv
    obtain ⟨k1, k2⟩ := ck_sKeep hS h0 hF hL
    obtain ⟨t2, a1, b1⟩ := kk r t.heap (locs ++ L) hp k2 k1 T' e1 X'
    exact ⟨t2, st t2 a1, b1⟩
  · exact hno.elim
/-- an int of the script -/
theorem ck_sld {A : Nat → Prop} (hexec : p.tables.exec = Jvm.exec) (hb : c.code = cc) {b L : Nat} {xs : Nat → Int32} (hX : va_X b L xs s H0) (hbl : b < H0.size) (hbA : ¬ A b) (hS : va_S A H0 H locs) {i y : Int32} (hin : vp_in i L) (hy : xs i.toNatClampNeg = y) (hdg : decode cc pc = .ok (.iaload, 1))
    (kk : W p l e R s m args below meth c H locs cells slots Q (F0 m (pc + 1) ls (.int y :: rest))) : W p l e R s m args below meth c H locs cells slots Q (F0 m pc ls (.int i :: .ref b :: rest)) :=
  va_sld hexec hb hX hbl hbA hS hin hdg (by rw [hy]; exact kk)
end CKM
theorem ck_ixs {i k Ln : Nat} (h : i + k < Ln) (hL : Ln ≤ 3584) : vp_in (nI i + nI k) Ln := by rw [nI_add]; exact vp_in_nI h (by omega)
theorem ck_Nn.call {nc nr : Nat} (h : nc ≤ 60) : ¬ ck_Nn nc nr (100 + nc) := fun z => by unfold ck_Nn at z; omega
theorem ck_Nn.rate {nc nr : Nat} (h : nc ≤ 60) : ¬ ck_Nn nc nr (200 + nr) := fun z => by unfold ck_Nn at z; omega
