theorem ck_W.sz {G : ck_G} {ad : Nat → Nat} {N : Nat → Prop} {F : Nat → va_E} {H : Heap} (h : ck_W G ad N F H) {i : Nat} (hi : N i) : G.2.2.2 ≤ H.size := Nat.le_trans (h.1 i hi).2 (Nat.le_of_lt (h.1 i hi).1.lt)
/-- a new cell, number i, at the heap's end -/
theorem ck_W.new {G : ck_G} {ad : Nat → Nat} {N : Nat → Prop} {F : Nat → va_E} {H H1 : Heap} (h : ck_W G ad N F H) (hz : G.2.2.2 ≤ H.size) {i : Nat} (hi : ¬ N i) (ha : ad i = H.size) {e : va_E} (he : va_at G.1 vwCl (H.size, e) H1) (oq : ∀ q : Nat, q < H.size → H1[q]? = H[q]?) : ck_W G ad (fun j => N j ∨ j = i) (va_up F i e) H1 := by
  have hne : ∀ j, N j → j ≠ i := fun j hj e => hi (by rw [← e]; exact hj)
  refine ⟨fun j hj => ?_, fun j k hj hk hjk => ?_⟩
  · rcases hj with hj | hj
    · rw [va_up_ne _ _ (hne j hj)]
      exact ⟨(h.1 j hj).1.kept (oq _ (h.1 j hj).1.lt), (h.1 j hj).2⟩
    · subst hj; rw [va_up_self, ha]; exact ⟨he, hz⟩
  · rcases hj with hj | hj <;> rcases hk with hk | hk
    · exact h.2 j k hj hk hjk
    · subst hk; rw [ha] at hjk
      have := (h.1 j hj).1.lt; simp only at this; omega
    · subst hj; rw [ha] at hjk
      have := (h.1 k hk).1.lt; simp only at this; omega
    · rw [hj, hk]
theorem ck_sNew {G : ck_G} {H0 H H1 : Heap} {locs : List Loc} (hS : va_S (ck_A G) H0 H locs) (z : H.size ≤ H1.size) (oq : ∀ q : Nat, q < H.size → H1[q]? = H[q]?) : va_S (ck_A G) H0 H1 locs := ⟨Nat.le_trans hS.1 z, fun x h1 h2 => (oq x (Nat.lt_of_lt_of_le h1 hS.1)).trans (hS.2.1 x h1 h2), hS.2.2⟩
/-- what is known behind a new cell i that holds e -/
def ck_Nw (G : ck_G) (ad : Nat → Nat) (N : Nat → Prop) (F : Nat → va_E) (i : Nat) (e : va_E) (N1 : Nat → Prop) (F1 : Nat → va_E) (H1 : Heap) : Prop := (∀ j, N j → N1 j) ∧ (∀ j, N1 j → N j ∨ j = i) ∧ N1 i ∧ F1 i = e ∧ (∀ j, j ≠ i → F1 j = F j) ∧ ck_W G ad N1 F1 H1
theorem ck_W.newN {G : ck_G} {ad : Nat → Nat} {N : Nat → Prop} {F : Nat → va_E} {H H1 : Heap} (h : ck_W G ad N F H) (hz : G.2.2.2 ≤ H.size) {i : Nat} (hi : ¬ N i) (ha : ad i = H.size) {e : va_E} (he : va_at G.1 vwCl (H.size, e) H1) (oq : ∀ q : Nat, q < H.size → H1[q]? = H[q]?) : ck_Nw G ad N F i e (fun j => N j ∨ j = i) (va_up F i e) H1 := ⟨fun j hj => Or.inl hj, fun j hj => hj, Or.inr rfl, va_up_self _ _ _, fun j hj => va_up_ne _ _ hj, h.new hz hi ha he oq⟩
section CKN
variable {p : Program} {l : Launch} {e : Env} {R : Room} {s : State} {m : MethodId} {args : Array Value} {below : List Frame} {meth : Method} {c : Code} {H H0 : Heap} {locs : List Loc} {cells slots mc ms : Nat} {Q : State → Prop}
variable {cc : ByteArray} {pc nL maxL n index : Nat} {ls : Array Slot} {rest st As : List Value} {G : ck_G} {ad : Nat → Nat} {N : Nat → Prop} {F : Nat → va_E} {lv : List (Nat × Value)}
theorem ck_newO (hexec : p.tables.exec = Jvm.exec) (hb : c.code = cc) {own C : String} {T : u_T} {NN ci : Nat} {Ts : List Cond} (hts : ∀ w ∈ Ts, w.before args s = true) (hin : ∀ w ∈ u_ws C T NN, w ∈ Ts) (ty : Nat → FieldType) (hty : ∀ k, k < NN → parseFieldDescriptor (T k).2.2.1 = some (ty k)) (hown : s.vm.findClass own = some m.cls) (hcl : (Cond.classLink own index C).before args s = true) (hinst : (Cond.instantiable C NN).before args s = true) (hini : (Cond.initialized C).before args s = true)
    (hK : va_K G.1 vwCl (ck_tys G) s) (hW : ck_W G ad N F H) (hS : va_S (ck_A G) H0 H locs) (hz : G.2.2.2 ≤ H.size) (i : Nat) (hi : ¬ N i) (ha : ad i = H.size) (hc : vwCl[ci]? = some (C, T, NN)) (fs : List Value) (hfs : ∀ j, j < NN → defaultValue (ty j) = vp_V fs j) (hcells : cells + 1 ≤ R.cells) (hslots : slots + NN ≤ R.slots) (hdg : decode cc pc = .ok (.new index, 3))
    (kk : ∀ (N1 : Nat → Prop) (F1 : Nat → va_E) (H1 : Heap), ck_Nw G ad N F i (.inr (ci, fs)) N1 F1 H1 → va_S (ck_A G) H0 H1 locs → H1.size = H.size + 1 → W p l e R s m args below meth c H1 locs (cells + 1) (slots + NN) Q (F0 m (pc + 3) ls (.ref (ad i) :: rest))) : W p l e R s m args below meth c H locs cells slots Q (F0 m pc ls rest) := by
  have hKn := hK.1 ci _ hc
  refine W.newcK hexec hb hown hcl hinst hini rfl hdg hcells hslots hKn.2.1 rfl fun H1 kC hkC e1 z1 o1 => ?_
  have hN := hW.newN (H1 := H1) hz hi ha (e := .inr (ci, fs)) ⟨_, hc, (u_born ty hts hin hKn hkC e1 hty).to hfs⟩ o1
  have := kk _ _ H1 hN (ck_sNew hS (by omega) o1) z1
  rw [ha] at this
  exact this
theorem ck_newI (hexec : p.tables.exec = Jvm.exec) (hb : c.code = cc) (harr : (Cond.arrayClass (newarray.typeOf .int)).before args s = true) (hK : va_K G.1 vwCl (ck_tys G) s) (hW : ck_W G ad N F H) (hS : va_S (ck_A G) H0 H locs) (hz : G.2.2.2 ≤ H.size) (i : Nat) (hi : ¬ N i) (ha : ad i = H.size)
    {x : Int32} (N' : Nat) (hn : ¬ x < 0) (hN' : x.toNatClampNeg = N') (hbytes : N' * componentBytes .int ≤ 536870912) (hcells : cells + 1 ≤ R.cells) (hslots : slots + N' ≤ R.slots) (hdg : decode cc pc = .ok (.newarray .int, 2))
    (kk : ∀ (N1 : Nat → Prop) (F1 : Nat → va_E) (H1 : Heap), ck_Nw G ad N F i (.inl (G.2.1 0, N', .inl (fun _ => 0))) N1 F1 H1 → va_S (ck_A G) H0 H1 locs → H1.size = H.size + 1 → W p l e R s m args below meth c H1 locs (cells + 1) (slots + N') Q (F0 m (pc + 2) ls (.ref (ad i) :: rest))) : W p l e R s m args below meth c H locs cells slots Q (F0 m pc ls (.int x :: rest)) := by
  refine va_newaK (atype := .int) hexec hb harr rfl hdg rfl hn hN' hbytes hcells hslots rfl fun H1 cA e1 z1 o1 hAr hNm => ?_
  have hcA : cA = G.2.1 0 := Option.some.inj (hNm.symm.trans (hK.2 0 _ rfl).2)
  have hN := hW.newN (H1 := H1) hz hi ha (e := .inl (G.2.1 0, N', .inl (fun _ => 0))) (by show H1[H.size]? = some (vp_cell _ _); rw [← hcA]; exact e1) o1
  have := kk _ _ H1 hN (ck_sNew hS (by omega) o1) z1
  rw [ha] at this
  exact this
theorem ck_newL (hexec : p.tables.exec = Jvm.exec) (hb : c.code = cc) (harr : (Cond.arrayClass (newarray.typeOf .long)).before args s = true) (hK : va_K G.1 vwCl (ck_tys G) s) (hW : ck_W G ad N F H) (hS : va_S (ck_A G) H0 H locs) (hz : G.2.2.2 ≤ H.size) (i : Nat) (hi : ¬ N i) (ha : ad i = H.size)
    {x : Int32} (N' : Nat) (hn : ¬ x < 0) (hN' : x.toNatClampNeg = N') (hbytes : N' * componentBytes .long ≤ 536870912) (hcells : cells + 1 ≤ R.cells) (hslots : slots + N' ≤ R.slots) (hdg : decode cc pc = .ok (.newarray .long, 2))
    (kk : ∀ (N1 : Nat → Prop) (F1 : Nat → va_E) (H1 : Heap), ck_Nw G ad N F i (.inl (G.2.1 1, N', .inr (.inl (fun _ => 0)))) N1 F1 H1 → va_S (ck_A G) H0 H1 locs → H1.size = H.size + 1 → W p l e R s m args below meth c H1 locs (cells + 1) (slots + N') Q (F0 m (pc + 2) ls (.ref (ad i) :: rest))) : W p l e R s m args below meth c H locs cells slots Q (F0 m pc ls (.int x :: rest)) := by
  refine va_newaK (atype := .long) hexec hb harr rfl hdg rfl hn hN' hbytes hcells hslots rfl fun H1 cA e1 z1 o1 hAr hNm => ?_
  have hcA : cA = G.2.1 1 := Option.some.inj (hNm.symm.trans (hK.2 1 _ rfl).2)
  have hN := hW.newN (H1 := H1) hz hi ha (e := .inl (G.2.1 1, N', .inr (.inl (fun _ => 0)))) (by show H1[H.size]? = some (vp_cell _ _); rw [← hcA]; exact e1) o1
  have := kk _ _ H1 hN (ck_sNew hS (by omega) o1) z1
  rw [ha] at this
  exact this
theorem ck_newQ (hexec : p.tables.exec = Jvm.exec) (hb : c.code = cc) {own C : String} (hown : s.vm.findClass own = some m.cls) (hclink : (Cond.classLink own index C).before args s = true) (hover : va_AO C s) (hK : va_K G.1 vwCl (ck_tys G) s) (hW : ck_W G ad N F H) (hS : va_S (ck_A G) H0 H locs) (hz : G.2.2.2 ≤ H.size) (i : Nat) (hi : ¬ N i) (ha : ad i = H.size) (t0 : Nat) {cT : ClassId} (ht : (ck_tys G)[t0]? = some (cT, .object C))
    {x : Int32} (N' : Nat) (hn : ¬ x < 0) (hN' : x.toNatClampNeg = N') (hbytes : N' * 4 ≤ 536870912) (hcells : cells + 1 ≤ R.cells) (hslots : slots + N' ≤ R.slots) (hdg : decode cc pc = .ok (.anewarray index, 3))
    (kk : ∀ (N1 : Nat → Prop) (F1 : Nat → va_E) (H1 : Heap), ck_Nw G ad N F i (.inl (cT, N', .inr (.inr (.inr (.inr (fun _ => none)))))) N1 F1 H1 → va_S (ck_A G) H0 H1 locs → H1.size = H.size + 1 → W p l e R s m args below meth c H1 locs (cells + 1) (slots + N') Q (F0 m (pc + 3) ls (.ref (ad i) :: rest))) : W p l e R s m args below meth c H locs cells slots Q (F0 m pc ls (.int x :: rest)) := by
  subst hN'
  refine W.anew hexec hb hown hclink (va_AO.use hover) rfl hdg rfl hn hbytes hcells hslots fun cA kA comp f1 f2 f3 f4 => ?_
  generalize hH1 : H.push ({ cls := cA, slots := Array.replicate x.toNatClampNeg .null, vm := .none } : Cell) = H1
  have z1 : H1.size = H.size + 1 := by rw [← hH1, Array.size_push]
  have e1 : H1[H.size]? = some (arrV cA x.toNatClampNeg (fun _ => .null)) := by rw [← hH1, Array.getElem?_push_size, ← arrV_new]
  have o1 : ∀ q : Nat, q < H.size → H1[q]? = H[q]? := fun q hq => by rw [← hH1, Array.getElem?_push, if_neg (Nat.ne_of_lt hq)]
  have hcA : cA = cT := by
    obtain ⟨kA2, comp2, -, -, -, h4⟩ := (hK.2 t0 _ ht).2
    exact Option.some.inj (f1.symm.trans h4)
  subst hcA
  have hN := hW.newN (H1 := H1) hz hi ha (e := .inl (cA, x.toNatClampNeg, .inr (.inr (.inr (.inr (fun _ => none)))))) (by show H1[H.size]? = some (vp_cell _ _); rw [vp_cell_q]; exact e1) o1
  have := kk _ _ H1 hN (ck_sNew hS (by omega) o1) z1
  rw [ha] at this
  exact this
theorem ck_putF (hexec : p.tables.exec = Jvm.exec) (hb : c.code = cc) {own C : String} {T : u_T} {NN ci : Nat} {Ts : List Cond} (hts : ∀ w ∈ Ts, w.before args s = true) (hin : ∀ w ∈ u_ws C T NN, w ∈ Ts) (ty0 : Nat → FieldType) (hty : ∀ k, k < NN → parseFieldDescriptor (T k).2.2.1 = some (ty0 k)) (hnm : ∀ a, a < NN → ∀ b, b < NN → a ≠ b → (T a).2.1 ≠ (T b).2.1) (hown : s.vm.findClass own = some m.cls) (hK : va_K G.1 vwCl (ck_tys G) s) (hW : ck_W G ad N F H) (hS0 : va_S (ck_A G) H0 H locs) {i : Nat} (hi : N i) {fs : List Value} (hF : F i = .inr (ci, fs)) (hc : vwCl[ci]? = some (C, T, NN)) (k : Nat) (hk : k < NN) (hlink : (Cond.fieldLink own index C (T k).2.1 (T k).2.2.1).before args s = true) (hsame : (T k).1 = C) (hfin : (T k).2.2.2 = true) (hin2 : meth.name = "<init>") (hdecl : (T k).1 = own) {ty : FieldType} {v : Value} (hd : parseFieldDescriptor (T k).2.2.1 = some ty) (hn : narrow ty v = v) (hfit : fits ty v = true) (hl : k < fs.length)
    (hdg : decode cc pc = .ok (.putfield index, 3)) (kk : ∀ (H1 : Heap) (locs1 : List Loc), ck_W G ad N (va_up F i (.inr (ci, fs.set k v))) H1 → va_S (ck_A G) H0 H1 locs1 → H1.size = H.size → W p l e R s m args below meth c H1 locs1 cells slots Q (F0 m (pc + 3) ls rest)) : W p l e R s m args below meth c H locs cells slots Q (F0 m pc ls (v :: .ref (ad i) :: rest)) := by
  have hap := va_apart (own := own) hts hin ty0 hty hnm hK hc
  obtain ⟨r, h1, cell, q1, q2, q3, q4⟩ := hW.at hi hF
  have hr : r = (C, T, NN) := Option.some.inj (h1.symm.trans hc)
  subst hr
  obtain ⟨hS, hfc, kC, hkC, hkind⟩ := hK.1 ci _ hc
  obtain ⟨cf, kf, fi, f, hi2, hsl⟩ := hS k hk
  have hlay := hts _ (hin _ (u_in_lay hk))
  unfold u_lay at hlay
  rw [if_pos hfin] at hlay
  have hst := (u_facts hfc hkC (u_lays hts hin hk) hi2).1
  have hcf : m.cls = cf := by
    obtain ⟨_, _, c', _, _, _, -, -, hf', -, -, -, hown2, -⟩ := Cond.laysFinal_spec hlay
    have e1 : c' = cf := by have := hi2.symm.trans hf'; simp at this; exact this.1.symm
    rw [hdecl] at hown2
    rw [← e1]; exact Option.some.inj (hown.symm.trans hown2)
  have h6 := u_fits hfc hkC hkind (Or.inr hlay) hi2 hd hn hfit
  refine W.putFinK hexec hb hown hlink (by rw [hsame] at hi2; exact hi2) hst hcf hin2 (by rw [q2]; exact h6) q1 q3 (by rw [hsl]; exact k2_hasslot (q4 k hk)) rfl rfl hdg fun H' e1 e2 e3 => ?_
  rw [hsl] at e1 ⊢
  exact kk H' _ (hW.put hi ⟨_, hc, t_OB.to (V := updV (vp_V fs) k v) ⟨_, e1, q2, q3, t_set q4 hap hk v⟩ (fun j _ => vp_updV_set hl v j)⟩ e3) (hS0.put e2 e3 (hW.1 i hi).2) e2
variable {y : MethodName} {bytes : ByteArray} {ret : Option FieldType} {ws : List Cond} {rm : Room} {Ts : List Cond} {own host : String} {b : Addr}
/-- a constructor -/
theorem ck_cIn {post : Heap → Prop} (S : CallFix p m c cc nL s args Ts own) (hKK : ck_K G H s) (hM : Met l y ws rm (ck_P G H (.ref b :: As)) (ck_Qv G post) mc ms (ck_A G)) (cw : CallB R s args own index y bytes maxL none ws rm mc ms n ∧ y.name = "<init>" ∧ (Cond.instanceMethod y).before args s = true) (hn : As.length = n) (hl : lv_has ls nL lv) (hst : st = As.reverse ++ .ref b :: rest) (hcat : (rest.map fun v => v.category).sum ≤ 8) (hdg : decode cc pc = .ok (.invokespecial index, 3)) (hf : cells + mc ≤ R.cells ∧ slots + ms ≤ R.slots) (hS : va_S (ck_A G) H0 H locs)
    (kk : ∀ (H1 : Heap) (locs1 : List Loc), post H1 → H.size ≤ H1.size → va_S (ck_A G) H0 H1 locs1 → W p l e R s m args below meth c H1 locs1 (cells + mc) (slots + ms) Q (F0 m (pc + 3) ls rest)) : W p l e R s m args below meth c H locs cells slots Q (F0 m pc ls st) := by
  intro T hT X
  obtain ⟨v, st₀, t, T', L, h0, X', hL, e1, ⟨⟨hv, hp⟩, hF⟩, st⟩ := (W.runI (g := F0 m pc ls st) S hM cw ⟨ck_blind, ck_pre hKK⟩ rfl hn hl.1 hst (lv_room hcat) hdg hf) T hT X
  cases hv
  obtain ⟨k1, k2⟩ := ck_sKeep hS h0 hF hL
  obtain ⟨t2, a1, b1⟩ := kk t.heap (locs ++ L) hp k2 k1 T' e1 X'
  exact ⟨t2, st t2 a1, b1⟩
theorem ck_cJn {post : Heap → Prop} (S : CallFix p m c cc nL s args Ts own) (hKK : ck_K G H s) (hM : Met l y ws rm (ck_P G H (.ref b :: As)) (ck_Qv G post) mc ms (ck_A G)) (cw : va_CN R s args own index y host bytes maxL none ws rm mc ms n ∧ y.name = "<init>" ∧ (Cond.instanceMethod y).before args s = true) (hn : As.length = n) (hl : lv_has ls nL lv) (hst : st = As.reverse ++ .ref b :: rest) (hcat : (rest.map fun v => v.category).sum ≤ 8) (hdg : decode cc pc = .ok (.invokespecial index, 3)) (hf : cells + mc ≤ R.cells ∧ slots + ms ≤ R.slots) (hS : va_S (ck_A G) H0 H locs)
    (kk : ∀ (H1 : Heap) (locs1 : List Loc), post H1 → H.size ≤ H1.size → va_S (ck_A G) H0 H1 locs1 → W p l e R s m args below meth c H1 locs1 (cells + mc) (slots + ms) Q (F0 m (pc + 3) ls rest)) : W p l e R s m args below meth c H locs cells slots Q (F0 m pc ls st) := by
  intro T hT X
  obtain ⟨v, st₀, t, T', L, h0, X', hL, e1, ⟨⟨hv, hp⟩, hF⟩, st⟩ := (ck_toCR (va_runIN (g := F0 m pc ls st) S hM cw ⟨ck_blind, ck_pre hKK⟩ rfl hn hl.1 hst (lv_room hcat) hdg hf)) T hT X
  cases hv
  obtain ⟨k1, k2⟩ := ck_sKeep hS h0 hF hL
  obtain ⟨t2, a1, b1⟩ := kk t.heap (locs ++ L) hp k2 k1 T' e1 X'
  exact ⟨t2, st t2 a1, b1⟩
end CKN
