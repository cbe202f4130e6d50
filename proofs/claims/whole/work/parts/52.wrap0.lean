/-- what a wrapper of the law leaves: its code k, what the class did, the answer in out -/
def ck_wa (R : Int32 → Int32 → (Nat → Nat → Int32) → Nat → Prop) (L : Nat → Nat → Int64) (nc : Nat) : Int32 → Int32 → (Nat → Nat → Int32) → (Nat → Nat → Int64) → Nat → Nat → Prop := fun k r V1 L1 nc1 nr1 => R k r V1 nr1 ∧ L1 = L ∧ nc1 = nc
def ck_we (R : Int32 → Int32 → (Nat → Nat → Int32) → (Nat → Nat → Int64) → Nat → Prop) (nr : Nat) : Int32 → Int32 → (Nat → Nat → Int32) → (Nat → Nat → Int64) → Nat → Nat → Prop := fun k r V1 L1 nc1 nr1 => R k r V1 L1 nc1 ∧ nr1 = nr
def ck_wrp (G : ck_G) (ad : Nat → Nat) (N : Nat → Prop) (F : Nat → va_E) (Rel : Int32 → Int32 → (Nat → Nat → Int32) → (Nat → Nat → Int64) → Nat → Nat → Prop) (k : Int32) (H1 : Heap) : Prop := ∃ (r : Int32) (V1 : Nat → Nat → Int32) (L1 : Nat → Nat → Int64) (nc1 nr1 : Nat) (N1 : Nat → Prop) (F1 : Nat → va_E) (g1 : Nat → Int64), Rel k r V1 L1 nc1 nr1 ∧ (k = 0 → g1 0 = r.toInt64) ∧ F1 52 = .inl (G.2.1 1, 1, .inr (.inl g1)) ∧ (∀ i, N i → N1 i) ∧ ck_W G ad N1 F1 H1 ∧ ck_C G ad V1 L1 nc1 nr1 N1 F1 ∧ (∀ i, 30 ≤ i → i < 52 → F1 i = F i)
section CKL
variable {p : Program} {l : Launch} {e : Env} {R : Room} {s : State} {m : MethodId} {args : Array Value} {below : List Frame} {meth : Method} {c : Code} {H H0 : Heap} {locs : List Loc} {cells slots mc ms : Nat} {Q : State → Prop}
variable {y : MethodName} {bytes cc : ByteArray} {maxL nL n index : Nat} {ret : Option FieldType} {ws : List Cond} {rm : Room} {Ts : List Cond} {own C : String} {b : Addr} {pc : Nat} {ls : Array Slot} {st rest As : List Value} {lv : List (Nat × Value)} {G : ck_G} {ad : Nat → Nat} {N : Nat → Prop} {F : Nat → va_E}
/-- a call of a method of the class that may throw -/
theorem ck_cXi {post : Int32 → Heap → Prop} {P : String → Prop} (S : CallFix p m c cc nL s args Ts own) (hKK : ck_K G H s) (hM : vx_Met l y ws rm (ck_P G H (.ref b :: As)) (ck_Qi G post) (ck_Xc G P ad N F) mc ms (ck_A G)) (cw : CallW R s args own C index y bytes maxL ret ws rm mc ms n) (hrc : ∃ cellB : Cell, H[b]? = some cellB ∧ cellB.vm.isStatics = false ∧ s.vm.findClass C = some cellB.cls) (hn : As.length = n) (hl : lv_has ls nL lv) (hst : st = As.reverse ++ .ref b :: rest) (hcat : (rest.map fun v => v.category).sum ≤ 8) (hdg : decode cc pc = .ok (.invokevirtual index, 3)) (hf : cells + mc ≤ R.cells ∧ slots + ms ≤ R.slots) (hS : va_S (ck_A G) H0 H locs)
    (kx : ∀ (E : String) (ce : Cell) (q9 : Addr) (H1 : Heap) (locs1 : List Loc), P E → ck_W G ad N F H1 → va_S (ck_A G) H0 H1 locs1 → H1[q9]? = some ce → ce.vm = .none → s.vm.findClass E = some ce.cls → vx_W p l e R s m args below meth c H1 locs1 (cells + mc) (slots + ms) Q (F0 m pc ls rest) q9)
    (kk : ∀ (r : Int32) (H1 : Heap) (locs1 : List Loc), post r H1 → H.size ≤ H1.size → va_S (ck_A G) H0 H1 locs1 → W p l e R s m args below meth c H1 locs1 (cells + mc) (slots + ms) Q (F0 m (pc + 3) ls (.int r :: rest))) : W p l e R s m args below meth c H locs cells slots Q (F0 m pc ls st) := by
  intro T hT X
  rcases (vx_runV (g := F0 m pc ls st) S hM cw ⟨ck_blind, hrc, ck_pre hKK⟩ rfl hn hl.1 hst (lv_room hcat) hdg hf) T hT X with ⟨v, st₀, t, T', L, h0, X', hL, e1, e2, ⟨⟨r, hv, hp⟩, hF⟩, st⟩ | ⟨q, st₀, t, T', L, E, ce, h0, X', hL, e1, e2, ⟨u, -, ⟨hp, hw⟩, hF⟩, hce, hcv, hcl, st⟩
  · cases hv
    obtain ⟨k1, k2⟩ := ck_sKeep hS h0 hF hL
    obtain ⟨t2, a1, b1⟩ := kk r t.heap (locs ++ L) hp k2 k1 T' e1 X'
    exact ⟨t2, st t2 a1, b1⟩
  · obtain ⟨k1, k2⟩ := ck_sKeep hS h0 hF hL
    obtain ⟨t2, a1, b1⟩ := kx E ce q t.heap (locs ++ L) hp hw k1 hce hcv hcl T' e1 X'
    exact ⟨t2, st.trans a1, b1⟩
end CKL
theorem ck_wrp.no {G : ck_G} {ad : Nat → Nat} {N : Nat → Prop} {F : Nat → va_E} {Rel : Int32 → Int32 → (Nat → Nat → Int32) → (Nat → Nat → Int64) → Nat → Nat → Prop} {k r : Int32} {H : Heap} {V : Nat → Nat → Int32} {L : Nat → Nat → Int64} {nc nr : Nat} {g : Nat → Int64} (hk : ¬ k = 0) (hR : Rel k r V L nc nr) (hF : F 52 = .inl (G.2.1 1, 1, .inr (.inl g))) (hW : ck_W G ad N F H) (hC : ck_C G ad V L nc nr N F) : ck_wrp G ad N F Rel k H :=
  ⟨r, V, L, nc, nr, N, F, g, hR, fun z => absurd z hk, hF, fun _ h => h, hW, hC, fun _ _ _ => rfl⟩
theorem ck_wrp.yes {G : ck_G} {ad : Nat → Nat} {N N1 : Nat → Prop} {F F1 F2 : Nat → va_E} {Rel : Int32 → Int32 → (Nat → Nat → Int32) → (Nat → Nat → Int64) → Nat → Nat → Prop} {r : Int32} {H : Heap} {V1 : Nat → Nat → Int32} {L1 : Nat → Nat → Int64} {nc1 nr1 : Nat} {g : Nat → Int64} (hR : Rel 0 r V1 L1 nc1 nr1) (hN : ∀ i, N i → N1 i) (hs : ck_sD F F1) (hF : F2 52 = .inl (G.2.1 1, 1, .inr (.inl (vp_updL g 0 r.toInt64)))) (hFo : ∀ j, j ≠ 52 → F2 j = F1 j) (hW : ck_W G ad N1 F2 H) (hC : ck_C G ad V1 L1 nc1 nr1 N1 F1) : ck_wrp G ad N F Rel 0 H :=
  ⟨r, V1, L1, nc1, nr1, N1, F2, _, hR, fun _ => pk_uLs, hF, hN, hW, hC.fE (fun i hi => hFo i (by omega)), fun i h1 h2 => (hFo i (by omega)).trans (hs i h1 (by omega))⟩
