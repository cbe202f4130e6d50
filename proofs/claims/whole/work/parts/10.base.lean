abbrev vwCl : List vw_C := [(RX0, TX0, 8), (RX1, TX1, 2), (RX2, TX2, 7), (RX3, TX3, 5), (RX4, TX4, 8), (RX5, TX5, 26)]
-- ===== the premises that every method needs beside its own words: tables, texts, statics =====
abbrev ck_G : Type := va_G × (Nat → ClassId) × (Nat → Nat) × Nat
def ck_A (G : ck_G) : Nat → Prop := fun q => G.2.2.2 ≤ q
abbrev ck_tys (G : ck_G) : List (ClassId × FieldType) := [(G.2.1 0, .int), (G.2.1 1, .long), (G.2.1 2, .object RX0), (G.2.1 3, .object RX1), (G.2.1 4, .object RX2), (G.2.1 5, .object RX3)]
def ck_strs : List (Nat × String) := [(45, "the bound is out of range"), (59, "a parameter of the record is out of range"), (77, "there are 60 calls"), (91, "no such switch"), (106, "no such call"), (121, "a parameter of the rate is out of range"), (126, "30 rates were added"), (131, "the number or the day is out of range"), (139, "no rate for the number on the day"), (147, "no rate for the call"), (156, "the call is not booked"), (164, "the prefix is out of range"), (180, "a parameter of the offer is out of range"), (185, "the carrier offers 10 prices"), (191, "the carrier or the number is out of range"), (197, "the carrier has no offer for the number"), (199, "a parameter of the route is out of range"), (208, "no such carrier"), (211, "the amount is out of range"), (219, "the number of digits is out of range"), (232, "there are no calls")]
def ck_IAE : String := "java/lang/IllegalArgumentException"
def ck_ISE : String := "java/lang/IllegalStateException"
def ck_IOB : String := "java/lang/IndexOutOfBoundsException"
def ck_NSE : String := "java/util/NoSuchElementException"
def ck_exc : List String := [ck_IAE, ck_ISE, ck_IOB, ck_NSE]
def ck_nc : List (String × String) := [(ck_ISE, ck_IAE), (ck_NSE, ck_IAE), (ck_NSE, ck_IOB), (ck_IAE, ck_IOB)]
def ck_ao : List String := [RX0, RX1, RX2, RX3]
def ck_decl : List MethodName := [Bundle.initS "java/lang/RuntimeException", Bundle.initS "java/lang/Exception", Bundle.initS Bundle.tN]
def ck_T (G : ck_G) (U : State) : Prop := va_K G.1 vwCl (ck_tys G) U ∧ (∀ q ∈ ck_strs, vk_R RX4 q.1 q.2 (G.2.2.1 q.1) U) ∧ (va_Nw (.methodLinkNest RX4 37 yX3_init RX4) U ∧ va_Nw (.methodLinkNest RX4 38 yX1_init RX4) U ∧ va_Nw (.methodLinkNest RX1 22 yX4_fits RX4) U) ∧ ((∀ E ∈ ck_exc, va_Nw (.castable E E) U) ∧ ∀ y ∈ ck_decl, va_Nw (.declares y) U) ∧ (∀ q ∈ ck_nc, va_Nc q.1 q.2 U) ∧ ∀ C ∈ ck_ao, va_AO C U
def ck_Z (G : ck_G) (U : State) (H : Heap) : Prop := vx_Zq Bundle.tN "UNASSIGNED_STACK" Bundle.steD (ck_A G) U H ∧ vx_Zq Bundle.tN "SUPPRESSED_SENTINEL" Bundle.listD (ck_A G) U H
def ck_K (G : ck_G) (H : Heap) (U : State) : Prop := ck_T G U ∧ ck_Z G U H
theorem ck_T.warm {G : ck_G} {s U : State} (hW : s.WarmedH U.vm) (h : ck_T G s) : ck_T G U :=
  ⟨va_K.moved hW.alike h.1, fun q hq => vk_R.warm hW (h.2.1 q hq), ⟨va_Nw.warmM hW h.2.2.1.1, va_Nw.warmM hW h.2.2.1.2.1, va_Nw.warmM hW h.2.2.1.2.2⟩, ⟨fun E hE => va_Nw.warmC hW (h.2.2.2.1.1 E hE), fun y hy => va_Nw.warmD hW (h.2.2.2.1.2 y hy)⟩, fun q hq => va_Nc.moved hW.alike (h.2.2.2.2.1 q hq), fun C hC => va_AO.moved hW.alike (h.2.2.2.2.2 C hC)⟩
theorem ck_T.same {G : ck_G} {u U : State} (hv : U.vm = u.vm) (h : ck_T G u) : ck_T G U := by
  have hA : u.vm.Alike U.vm := by rw [hv]; exact Vm.Alike.refl u.vm
  exact ⟨va_K.moved hA h.1, fun q hq => vk_R.same hv (h.2.1 q hq), ⟨va_Nw.same rfl hv.symm h.2.2.1.1, va_Nw.same rfl hv.symm h.2.2.1.2.1, va_Nw.same rfl hv.symm h.2.2.1.2.2⟩, ⟨fun E hE => va_Nw.same rfl hv.symm (h.2.2.2.1.1 E hE), fun y hy => va_Nw.same rfl hv.symm (h.2.2.2.1.2 y hy)⟩, fun q hq => va_Nc.moved hA (h.2.2.2.2.1 q hq), fun C hC => va_AO.moved hA (h.2.2.2.2.2 C hC)⟩
theorem ck_K.warm {G : ck_G} {H : Heap} {s U : State} (hW : s.WarmedH U.vm) (h : ck_K G H s) : ck_K G H U := ⟨h.1.warm hW, vx_Zq.moved hW.alike h.2.1, vx_Zq.moved hW.alike h.2.2⟩
theorem ck_K.same {G : ck_G} {H : Heap} {u U : State} (hv : U.vm = u.vm) (h : ck_K G H u) : ck_K G H U := by
  have hA : u.vm.Alike U.vm := by rw [hv]; exact Vm.Alike.refl u.vm
  exact ⟨h.1.same hv, vx_Zq.moved hA h.2.1, vx_Zq.moved hA h.2.2⟩
theorem ck_K.keep {G : ck_G} {H H1 : Heap} {s : State} (h : ck_K G H s) (hq : ∀ a : Nat, a < H.size → ¬ ck_A G a → H1[a]? = H[a]?) : ck_K G H1 s := ⟨h.1, h.2.1.kept hq, h.2.2.kept hq⟩
/-- a method's start: these arguments, this heap -/
def ck_P (G : ck_G) (H : Heap) (av : List Value) : Array Value → State → Prop := va_Pc av (fun U => U.heap = H ∧ ck_K G H U)
theorem ck_blind {G : ck_G} {H : Heap} {av : List Value} : FrameBlind (ck_P G H av) := fun _ _ _ _ q => ⟨q.1, q.2.1, ck_K.same rfl q.2.2⟩
theorem ck_pre {G : ck_G} {H : Heap} {av : List Value} {s : State} (h : ck_K G H s) : ∀ U : State, U.heap = H → s.WarmedH U.vm → ck_P G H av av.toArray U := fun _ hU hW => ⟨rfl, hU, ck_K.warm hW h⟩
-- ===== the world: cell number i lies at ad i and holds F i, for every i that is alive =====
def ck_W (G : ck_G) (ad : Nat → Nat) (N : Nat → Prop) (F : Nat → va_E) (H : Heap) : Prop := (∀ i, N i → va_at G.1 vwCl (ad i, F i) H ∧ ck_A G (ad i)) ∧ ∀ i j, N i → N j → ad i = ad j → i = j
theorem ck_W.at {G : ck_G} {ad : Nat → Nat} {N : Nat → Prop} {F : Nat → va_E} {H : Heap} (h : ck_W G ad N F H) {i : Nat} (hi : N i) {e : va_E} (hF : F i = e) : va_at G.1 vwCl (ad i, e) H := by rw [← hF]; exact (h.1 i hi).1
theorem ck_one {D : va_G} {q : Nat × va_E} {H : Heap} (h : va_at D vwCl q H) : va_P D vwCl [q] H := fun k r hk => by
  cases k with
  | zero => cases hk; exact h
  | succ k => simp at hk
theorem ck_W.put {G : ck_G} {ad : Nat → Nat} {N : Nat → Prop} {F : Nat → va_E} {H H1 : Heap} (h : ck_W G ad N F H) {i : Nat} (hi : N i) {e : va_E} (he : va_at G.1 vwCl (ad i, e) H1) (oq : ∀ q : Nat, q ≠ ad i → H1[q]? = H[q]?) : ck_W G ad N (va_up F i e) H1 := by
  refine ⟨fun j hj => ⟨?_, (h.1 j hj).2⟩, h.2⟩
  by_cases e1 : j = i
  · subst e1; rw [va_up_self]; exact he
  · rw [va_up_ne _ _ e1]; exact (h.1 j hj).1.kept (oq _ (fun z => e1 (h.2 j i hj hi z)))
theorem ck_W.kept {G : ck_G} {ad : Nat → Nat} {N : Nat → Prop} {F : Nat → va_E} {H H1 : Heap} (h : ck_W G ad N F H) (oq : ∀ q : Nat, q < H.size → H1[q]? = H[q]?) : ck_W G ad N F H1 := ⟨fun j hj => ⟨(h.1 j hj).1.kept (oq _ (h.1 j hj).1.lt), (h.1 j hj).2⟩, h.2⟩
theorem ck_recv {G : ck_G} {ad : Nat → Nat} {N : Nat → Prop} {F : Nat → va_E} {H : Heap} {s : State} (hK : va_K G.1 vwCl (ck_tys G) s) (h : ck_W G ad N F H) {i : Nat} (hi : N i) {ci : Nat} {fs : List Value} (hF : F i = .inr (ci, fs)) {q : vw_C} (hc : vwCl[ci]? = some q) : ∃ cell : Cell, H[ad i]? = some cell ∧ cell.vm.isStatics = false ∧ s.vm.findClass q.1 = some cell.cls := va_recv hK (ck_one (h.at hi hF)) hc (q0 := 0) rfl
section CKR
variable {p : Program} {l : Launch} {e : Env} {R : Room} {s : State} {m : MethodId} {args : Array Value} {below : List Frame} {meth : Method} {c : Code} {H : Heap} {locs : List Loc} {cells slots : Nat} {Q : State → Prop}
variable {cc : ByteArray} {pc : Nat} {ls : Array Slot} {rest : List Value} {G : ck_G} {ad : Nat → Nat} {N : Nat → Prop} {F : Nat → va_E} {H0 : Heap} {A : Nat → Prop}
theorem ck_get (hexec : p.tables.exec = Jvm.exec) (hb : c.code = cc) {own C : String} {T : u_T} {NN ci index : Nat} {Ts : List Cond} (hts : ∀ w ∈ Ts, w.before args s = true) (hin : ∀ w ∈ u_ws C T NN, w ∈ Ts) (hown : s.vm.findClass own = some m.cls) (hK : va_K G.1 vwCl (ck_tys G) s) (hW : ck_W G ad N F H) {i : Nat} (hi : N i) {fs : List Value} (hF : F i = .inr (ci, fs)) (hc : vwCl[ci]? = some (C, T, NN)) (k : Nat) (hk : k < NN) (hlink : (Cond.fieldLink own index C (T k).2.1 (T k).2.2.1).before args s = true) (hsame : (T k).1 = C) {v : Value} (hv : fs[k]? = some v) (hdg : decode cc pc = .ok (.getfield index, 3))
    (kk : W p l e R s m args below meth c H locs cells slots Q (F0 m (pc + 3) ls (v :: rest))) : W p l e R s m args below meth c H locs cells slots Q (F0 m pc ls (.ref (ad i) :: rest)) :=
  va_get hexec hb hts hin hown hK (ck_one (hW.at hi hF)) 0 rfl hc k hk hlink (fun x h => by rw [hsame] at h; exact h) hv hdg kk
theorem ck_put (hexec : p.tables.exec = Jvm.exec) (hb : c.code = cc) {own C : String} {T : u_T} {NN ci index : Nat} {Ts : List Cond} (hts : ∀ w ∈ Ts, w.before args s = true) (hin : ∀ w ∈ u_ws C T NN, w ∈ Ts) (ty0 : Nat → FieldType) (hty : ∀ k, k < NN → parseFieldDescriptor (T k).2.2.1 = some (ty0 k)) (hnm : ∀ a, a < NN → ∀ b, b < NN → a ≠ b → (T a).2.1 ≠ (T b).2.1) (hown : s.vm.findClass own = some m.cls) (hK : va_K G.1 vwCl (ck_tys G) s) (hW : ck_W G ad N F H) (hS0 : va_S (ck_A G) H0 H locs) {i : Nat} (hi : N i) {fs : List Value} (hF : F i = .inr (ci, fs)) (hc : vwCl[ci]? = some (C, T, NN)) (k : Nat) (hk : k < NN) (hlink : (Cond.fieldLink own index C (T k).2.1 (T k).2.2.1).before args s = true) (hsame : (T k).1 = C) (hfin : (T k).2.2.2 = false) {ty : FieldType} {v : Value} (hd : parseFieldDescriptor (T k).2.2.1 = some ty) (hn : narrow ty v = v) (hfit : fits ty v = true) (hl : k < fs.length)
    (hdg : decode cc pc = .ok (.putfield index, 3)) (kk : ∀ (H1 : Heap) (locs1 : List Loc), ck_W G ad N (va_up F i (.inr (ci, fs.set k v))) H1 → va_S (ck_A G) H0 H1 locs1 → H1.size = H.size → W p l e R s m args below meth c H1 locs1 cells slots Q (F0 m (pc + 3) ls rest)) : W p l e R s m args below meth c H locs cells slots Q (F0 m pc ls (v :: .ref (ad i) :: rest)) := by
  have hap := va_apart (own := own) hts hin ty0 hty hnm hK hc
  obtain ⟨r, h1, cell, q1, q2, q3, q4⟩ := hW.at hi hF
  have hr : r = (C, T, NN) := Option.some.inj (h1.symm.trans hc)
  subst hr
  obtain ⟨hS, hfc, kC, hkC, hkind⟩ := hK.1 ci _ hc
  obtain ⟨cf, kf, fi, f, hi2, hsl⟩ := hS k hk
  have hlay := hts _ (hin _ (u_in_lay hk))
  unfold u_lay at hlay
  rw [if_neg (by rw [hfin]; decide)] at hlay
  have hst := (u_facts hfc hkC (u_lays hts hin hk) hi2).1
  have h6 := u_store hfc hkC hkind hlay hi2 hd hn hfit
  refine W.putK hexec hb (f := f) ⟨hown, hlink, ⟨_, _, _, by rw [hsame] at hi2; exact hi2⟩, hst⟩ (by rw [q2]; exact h6) q1 q3 (by rw [hsl]; exact k2_hasslot (q4 k hk)) rfl rfl hdg fun H' e1 e2 e3 => ?_
  rw [hsl] at e1 ⊢
  exact kk H' _ (hW.put hi ⟨_, hc, t_OB.to (V := updV (vp_V fs) k v) ⟨_, e1, q2, q3, t_set q4 hap hk v⟩ (fun j _ => vp_updV_set hl v j)⟩ e3) (hS0.put e2 e3 (hW.1 i hi).2) e2
theorem ck_alen (hexec : p.tables.exec = Jvm.exec) (hb : c.code = cc) (hK : va_K G.1 vwCl (ck_tys G) s) (hW : ck_W G ad N F H) {i : Nat} (hi : N i) {cA : ClassId} {x : vp_A} (hF : F i = .inl (cA, x)) (t0 : Nat) {ty : FieldType} (ht : (ck_tys G)[t0]? = some (cA, ty)) {v : Int32} (hv : Int32.ofNat x.1 = v) (hdg : decode cc pc = .ok (.arraylength, 1))
    (kk : W p l e R s m args below meth c H locs cells slots Q (F0 m (pc + 1) ls (.int v :: rest))) : W p l e R s m args below meth c H locs cells slots Q (F0 m pc ls (.ref (ad i) :: rest)) := va_alen hexec hb hK (ck_one (hW.at hi hF)) 0 t0 rfl ht hv hdg kk
theorem ck_in {i : Int32} {j n : Nat} (hj : i = nI j) (hlt : j < n) (hn : n < 2 ^ 31) : vp_in i n ∧ i.toNatClampNeg = j := by
  subst hj
  exact ⟨vp_in_nI hlt hn, nI_clamp (by omega)⟩
theorem ck_iald (hexec : p.tables.exec = Jvm.exec) (hb : c.code = cc) (hK : va_K G.1 vwCl (ck_tys G) s) (hW : ck_W G ad N F H) {i : Nat} (hi : N i) {n : Nat} {f : Nat → Int32} (hF : F i = .inl (G.2.1 0, n, .inl f)) {x : Int32} (j : Nat) (hj : x = nI j) (hlt : j < n) (hn : n < 2 ^ 31) (hdg : decode cc pc = .ok (.iaload, 1))
    (kk : W p l e R s m args below meth c H locs cells slots Q (F0 m (pc + 1) ls (.int (f j) :: rest))) : W p l e R s m args below meth c H locs cells slots Q (F0 m pc ls (.int x :: .ref (ad i) :: rest)) := by
  obtain ⟨h1, h2⟩ := ck_in hj hlt hn
  refine va_iald hexec hb hK (ck_one (hW.at hi hF)) 0 0 rfl rfl h1 hdg ?_
  rw [h2]; exact kk
theorem ck_lald (hexec : p.tables.exec = Jvm.exec) (hb : c.code = cc) (hK : va_K G.1 vwCl (ck_tys G) s) (hW : ck_W G ad N F H) {i : Nat} (hi : N i) {n : Nat} {f : Nat → Int64} (hF : F i = .inl (G.2.1 1, n, .inr (.inl f))) {x : Int32} (j : Nat) (hj : x = nI j) (hlt : j < n) (hn : n < 2 ^ 31) (hdg : decode cc pc = .ok (.laload, 1))
    (kk : W p l e R s m args below meth c H locs cells slots Q (F0 m (pc + 1) ls (.long (f j) :: rest))) : W p l e R s m args below meth c H locs cells slots Q (F0 m pc ls (.int x :: .ref (ad i) :: rest)) := by
  obtain ⟨h1, h2⟩ := ck_in hj hlt hn
  refine va_lald hexec hb hK (ck_one (hW.at hi hF)) 0 1 rfl rfl h1 hdg ?_
  rw [h2]; exact kk
/-- a row of references: what lies at place j, by its value r (none: null) -/
theorem ck_aald (hexec : p.tables.exec = Jvm.exec) (hb : c.code = cc) (hK : va_K G.1 vwCl (ck_tys G) s) (hW : ck_W G ad N F H) {i : Nat} (hi : N i) {cA : ClassId} {n : Nat} {f : Nat → Option Nat} (hF : F i = .inl (cA, n, .inr (.inr (.inr (.inr f))))) (t0 : Nat) {C : String} (ht : (ck_tys G)[t0]? = some (cA, .object C)) {x : Int32} (j : Nat) (hj : x = nI j) (hlt : j < n) (hn : n < 2 ^ 31) {r : Option Nat} (hr : f j = r) (hdg : decode cc pc = .ok (.aaload, 1))
    (kk : W p l e R s m args below meth c H locs cells slots Q (F0 m (pc + 1) ls (va_rf r :: rest))) : W p l e R s m args below meth c H locs cells slots Q (F0 m pc ls (.int x :: .ref (ad i) :: rest)) := by
  obtain ⟨h1, h2⟩ := ck_in hj hlt hn
  refine va_aldq hexec hb hK (ck_one (hW.at hi hF)) 0 t0 rfl ht h1 hdg ?_
  rw [h2, hr]; exact kk
theorem ck_iast (hexec : p.tables.exec = Jvm.exec) (hb : c.code = cc) (hK : va_K G.1 vwCl (ck_tys G) s) (hW : ck_W G ad N F H) (hS0 : va_S (ck_A G) H0 H locs) {i : Nat} (hi : N i) {n : Nat} {f : Nat → Int32} (hF : F i = .inl (G.2.1 0, n, .inl f)) {x y : Int32} (j : Nat) (hj : x = nI j) (hlt : j < n) (hn : n < 2 ^ 31) (hdg : decode cc pc = .ok (.iastore, 1))
    (kk : ∀ (H1 : Heap) (locs1 : List Loc), ck_W G ad N (va_up F i (.inl (G.2.1 0, n, .inl (upd f j y)))) H1 → va_S (ck_A G) H0 H1 locs1 → H1.size = H.size → W p l e R s m args below meth c H1 locs1 cells slots Q (F0 m (pc + 1) ls rest)) : W p l e R s m args below meth c H locs cells slots Q (F0 m pc ls (.int y :: .int x :: .ref (ad i) :: rest)) := by
  obtain ⟨h1, h2⟩ := ck_in hj hlt hn
  refine W.iast hexec hb (hW.at hi hF) ((hK.2 0 _ rfl).1 n (fun j => .int (f j))) (fun q => by cases q) (by show ¬ (x < 0 ∨ (arrV _ _ _).slots.size ≤ _); rw [arrV_size]; exact h1) rfl rfl hdg fun H1 e z oq => ?_
  refine kk H1 _ (hW.put hi ?_ oq) (hS0.put z oq (hW.1 i hi).2) z
  show H1[ad i]? = some (vp_cell _ _)
  rw [e, h2]
  rw [vp_cell_i, vp_cell_i, arrV_store]
  congr 2
  funext q
  by_cases hq : q = j
  · subst hq
    simp [updV, upd]
  · simp [updV, upd, hq]
theorem ck_last (hexec : p.tables.exec = Jvm.exec) (hb : c.code = cc) (hK : va_K G.1 vwCl (ck_tys G) s) (hW : ck_W G ad N F H) (hS0 : va_S (ck_A G) H0 H locs) {i : Nat} (hi : N i) {n : Nat} {f : Nat → Int64} (hF : F i = .inl (G.2.1 1, n, .inr (.inl f))) {x : Int32} {y : Int64} (j : Nat) (hj : x = nI j) (hlt : j < n) (hn : n < 2 ^ 31) (hdg : decode cc pc = .ok (.lastore, 1))
    (kk : ∀ (H1 : Heap) (locs1 : List Loc), ck_W G ad N (va_up F i (.inl (G.2.1 1, n, .inr (.inl (vp_updL f j y))))) H1 → va_S (ck_A G) H0 H1 locs1 → H1.size = H.size → W p l e R s m args below meth c H1 locs1 cells slots Q (F0 m (pc + 1) ls rest)) : W p l e R s m args below meth c H locs cells slots Q (F0 m pc ls (.long y :: .int x :: .ref (ad i) :: rest)) := by
  obtain ⟨h1, h2⟩ := ck_in hj hlt hn
  refine W.last hexec hb (hW.at hi hF) ((hK.2 1 _ rfl).1 n (fun j => .long (f j))) (fun q => by cases q) (by show ¬ (x < 0 ∨ (arrV _ _ _).slots.size ≤ _); rw [arrV_size]; exact h1) rfl rfl hdg fun H1 e z oq => ?_
  refine kk H1 _ (hW.put hi ?_ oq) (hS0.put z oq (hW.1 i hi).2) z
  show H1[ad i]? = some (vp_cell _ _)
  rw [e, h2]
  rw [vp_cell_l, vp_cell_l, arrV_store]
  congr 2
  funext q
  by_cases hq : q = j
  · subst hq
    simp [updV, vp_updL]
  · simp [updV, vp_updL, hq]
theorem ck_aast (hexec : p.tables.exec = Jvm.exec) (hb : c.code = cc) (hK : va_K G.1 vwCl (ck_tys G) s) (hW : ck_W G ad N F H) (hS0 : va_S (ck_A G) H0 H locs) {i : Nat} (hi : N i) {cA : ClassId} {n : Nat} {f : Nat → Option Nat} (hF : F i = .inl (cA, n, .inr (.inr (.inr (.inr f))))) (t0 : Nat) {r : vw_C} (ht : (ck_tys G)[t0]? = some (cA, .object r.1)) {x : Int32} (j : Nat) (hj : x = nI j) (hlt : j < n) (hn : n < 2 ^ 31) {k ci : Nat} {vs : List Value} (hk : N k) (hFk : F k = .inr (ci, vs)) (hc : vwCl[ci]? = some r) (hdg : decode cc pc = .ok (.aastore, 1))
    (kk : ∀ (H1 : Heap) (locs1 : List Loc), ck_W G ad N (va_up F i (.inl (cA, n, .inr (.inr (.inr (.inr (va_up f j (some (ad k)))))))) ) H1 → va_S (ck_A G) H0 H1 locs1 → H1.size = H.size → W p l e R s m args below meth c H1 locs1 cells slots Q (F0 m (pc + 1) ls rest)) : W p l e R s m args below meth c H locs cells slots Q (F0 m pc ls (.ref (ad k) :: .int x :: .ref (ad i) :: rest)) := by
  obtain ⟨h1, h2⟩ := ck_in hj hlt hn
  have h0 : ¬ x < 0 := fun q => h1 (Or.inl q)
  have hlt2 : x.toNatClampNeg < n := by rw [h2]; exact hlt
  obtain ⟨r', hr', cellV, g1, g2, g3, -⟩ := hW.at hk hFk
  have hcls := (hK.1 ci r hc).2
  obtain ⟨kA, comp, k1, k2, k3, -⟩ := (hK.2 t0 _ ht).2
  have hcomp : comp = G.1.1 ci := Option.some.inj (k3.symm.trans hcls.1)
  subst hcomp
  obtain ⟨kC, hkC, -⟩ := hcls.2
  refine W.aast hexec hb (hW.at hi hF) (fun q h => by cases h) (fun h => by cases h) k1 k2 rfl hkC ⟨h0, by show _ < (arrV _ _ _).slots.size; rw [arrV_size]; exact hlt2⟩ g1 (fun q h => by rw [g3] at h; cases h) (by rw [g2]; exact hkC) (by rw [g2]; exact va_assign hcls) rfl rfl hdg fun H1 e z oq => ?_
  refine kk H1 _ (hW.put hi ?_ oq) (hS0.put z oq (hW.1 i hi).2) z
  show H1[ad i]? = some (vp_cell _ _)
  rw [e, h2]
  rw [vp_cell_q, vp_cell_q, arrV_store]
  congr 2
  funext q
  by_cases hq : q = j
  · subst hq
    simp [updV, va_up, va_rf]
  · simp [updV, va_up, hq]
end CKR
-- ===== calls =====
/-- a truth value that a method answers -/
def ck_b (c : Prop) (r : Int32) : Prop := (c ∧ r = 1) ∨ (¬ c ∧ r = 0)
def ck_Qi (G : ck_G) (post : Int32 → Heap → Prop) : Array Value → State → Outcome → State → Prop := fun _ st oc t => (∃ r : Int32, oc = .returned (some (.int r)) ∧ post r t.heap) ∧ va_F (ck_A G) st t
def ck_Qv (G : ck_G) (post : Heap → Prop) : Array Value → State → Outcome → State → Prop := fun _ st oc t => (oc = .returned none ∧ post t.heap) ∧ va_F (ck_A G) st t
def ck_Qr (G : ck_G) (post : Option Nat → Heap → Prop) : Array Value → State → Outcome → State → Prop := fun _ st oc t => (∃ r : Option Nat, oc = .returned (some (va_rf r)) ∧ post r t.heap) ∧ va_F (ck_A G) st t
theorem ck_sKeep {G : ck_G} {H0 H : Heap} {locs L : List Loc} {st t : State} (hS : va_S (ck_A G) H0 H locs) (h0 : st.heap = H) (hF : va_F (ck_A G) st t) (hL : ∀ q ∈ L, ck_A G q.base) : va_S (ck_A G) H0 t.heap (locs ++ L) ∧ H.size ≤ t.heap.size := by
  obtain ⟨hz, hk⟩ := hF
  rw [h0] at hz hk
  refine ⟨⟨Nat.le_trans hS.1 hz, fun q h1 h2 => (hk q (Nat.lt_of_lt_of_le h1 hS.1) h2).trans (hS.2.1 q h1 h2), fun q hq => ?_⟩, hz⟩
  rcases List.mem_append.mp hq with h | h
  · exact hS.2.2 q h
  · exact hL q h
section CKC
variable {p : Program} {l : Launch} {e : Env} {R : Room} {s : State} {m : MethodId} {args : Array Value} {below : List Frame} {meth : Method} {c : Code} {H H0 : Heap} {locs : List Loc} {cells slots mc ms : Nat} {Q : State → Prop}
variable {y : MethodName} {bytes cc : ByteArray} {maxL nL n index : Nat} {ret : Option FieldType} {ws : List Cond} {rm : Room} {Ts : List Cond} {own C host : String} {b : Addr} {pc : Nat} {ls : Array Slot} {st rest As : List Value} {lv : List (Nat × Value)} {G : ck_G}
theorem ck_cVi {post : Int32 → Prop} (S : CallFix p m c cc nL s args Ts own) (hKK : ck_K G H s) (hM : Met l y ws rm (ck_P G H (.ref b :: As)) (vp_Si post) 0 0 (fun _ => False)) (cw : CallW R s args own C index y bytes maxL ret ws rm 0 0 n) (hrc : ∃ cellB : Cell, H[b]? = some cellB ∧ cellB.vm.isStatics = false ∧ s.vm.findClass C = some cellB.cls) (hn : As.length = n) (hl : lv_has ls nL lv) (hst : st = As.reverse ++ .ref b :: rest) (hcat : (rest.map fun v => v.category).sum ≤ 8) (hdg : decode cc pc = .ok (.invokevirtual index, 3)) (hf : cells + 0 ≤ R.cells ∧ slots + 0 ≤ R.slots)
    (kk : ∀ r : Int32, post r → W p l e R s m args below meth c H locs cells slots Q (F0 m (pc + 3) ls (.int r :: rest))) : W p l e R s m args below meth c H locs cells slots Q (F0 m pc ls st) :=
  vp_callSi (W.runV (g := F0 m pc ls st) S hM cw ⟨ck_blind, hrc, ck_pre hKK⟩ rfl hn hl.1 hst (lv_room hcat) hdg hf) kk
theorem ck_cVq {post : Option Nat → Prop} (S : CallFix p m c cc nL s args Ts own) (hKK : ck_K G H s) (hM : Met l y ws rm (ck_P G H (.ref b :: As)) (va_Sq post) 0 0 (fun _ => False)) (cw : CallW R s args own C index y bytes maxL ret ws rm 0 0 n) (hrc : ∃ cellB : Cell, H[b]? = some cellB ∧ cellB.vm.isStatics = false ∧ s.vm.findClass C = some cellB.cls) (hn : As.length = n) (hl : lv_has ls nL lv) (hst : st = As.reverse ++ .ref b :: rest) (hcat : (rest.map fun v => v.category).sum ≤ 8) (hdg : decode cc pc = .ok (.invokevirtual index, 3)) (hf : cells + 0 ≤ R.cells ∧ slots + 0 ≤ R.slots)
    (kk : ∀ r : Option Nat, post r → W p l e R s m args below meth c H locs cells slots Q (F0 m (pc + 3) ls (va_rf r :: rest))) : W p l e R s m args below meth c H locs cells slots Q (F0 m pc ls st) :=
  va_csq (W.runV (g := F0 m pc ls st) S hM cw ⟨ck_blind, hrc, ck_pre hKK⟩ rfl hn hl.1 hst (lv_room hcat) hdg hf) kk
theorem ck_cSi {post : Int32 → Prop} (S : CallFix p m c cc nL s args Ts own) (hKK : ck_K G H s) (hM : Met l y ws rm (ck_P G H As) (vp_Si post) 0 0 (fun _ => False)) (cw : CallB R s args own index y bytes maxL ret ws rm 0 0 n ∧ (Cond.static y).before args s = true) (hn : As.length = n) (hl : lv_has ls nL lv) (hst : st = As.reverse ++ rest) (hcat : (rest.map fun v => v.category).sum ≤ 8) (hdg : decode cc pc = .ok (.invokestatic index, 3)) (hf : cells + 0 ≤ R.cells ∧ slots + 0 ≤ R.slots)
    (kk : ∀ r : Int32, post r → W p l e R s m args below meth c H locs cells slots Q (F0 m (pc + 3) ls (.int r :: rest))) : W p l e R s m args below meth c H locs cells slots Q (F0 m pc ls st) :=
  vp_callSi (W.runS (g := F0 m pc ls st) S hM cw ⟨ck_blind, ck_pre hKK⟩ rfl hn hl.1 hst (lv_room hcat) hdg hf) kk
theorem ck_cSl {post : Int64 → Prop} (S : CallFix p m c cc nL s args Ts own) (hKK : ck_K G H s) (hM : Met l y ws rm (ck_P G H As) (vp_Sl post) 0 0 (fun _ => False)) (cw : CallB R s args own index y bytes maxL ret ws rm 0 0 n ∧ (Cond.static y).before args s = true) (hn : As.length = n) (hl : lv_has ls nL lv) (hst : st = As.reverse ++ rest) (hcat : (rest.map fun v => v.category).sum ≤ 8) (hdg : decode cc pc = .ok (.invokestatic index, 3)) (hf : cells + 0 ≤ R.cells ∧ slots + 0 ≤ R.slots)
    (kk : ∀ r : Int64, post r → W p l e R s m args below meth c H locs cells slots Q (F0 m (pc + 3) ls (.long r :: rest))) : W p l e R s m args below meth c H locs cells slots Q (F0 m pc ls st) :=
  vp_callSl (W.runS (g := F0 m pc ls st) S hM cw ⟨ck_blind, ck_pre hKK⟩ rfl hn hl.1 hst (lv_room hcat) hdg hf) kk
theorem ck_toCR {g : JFrame} {Qa : State → Outcome → State → Prop} {free : Addr → Prop} (h : va_Run p l e R s m args below meth c H locs cells slots mc ms g rest Qa free) : CallRun p l e R s m args below meth c H locs cells slots mc ms g rest Qa free := by
  intro T hT X
  obtain ⟨v, st₀, t, T', L, h0, X', hL, e1, -, hq, hst⟩ := h T hT X
  exact ⟨v, st₀, t, T', L, h0, X', hL, e1, hq, hst⟩
/-- a private static method of a nest mate -/
theorem ck_cNi {post : Int32 → Prop} (S : CallFix p m c cc nL s args Ts own) (hKK : ck_K G H s) (hM : Met l y ws rm (ck_P G H As) (vp_Si post) 0 0 (fun _ => False)) (cw : va_CN R s args own index y host bytes maxL ret ws rm 0 0 n ∧ (Cond.static y).before args s = true ∧ True) (hn : As.length = n) (hl : lv_has ls nL lv) (hst : st = As.reverse ++ rest) (hcat : (rest.map fun v => v.category).sum ≤ 8) (hdg : decode cc pc = .ok (.invokestatic index, 3)) (hf : cells + 0 ≤ R.cells ∧ slots + 0 ≤ R.slots)
    (kk : ∀ r : Int32, post r → W p l e R s m args below meth c H locs cells slots Q (F0 m (pc + 3) ls (.int r :: rest))) : W p l e R s m args below meth c H locs cells slots Q (F0 m pc ls st) :=
  vp_callSi (ck_toCR (va_runSN (g := F0 m pc ls st) S hM cw ⟨ck_blind, ck_pre hKK⟩ rfl hn hl.1 hst (lv_room hcat) hdg hf)) kk
theorem ck_cVw {post : Int32 → Heap → Prop} (S : CallFix p m c cc nL s args Ts own) (hKK : ck_K G H s) (hM : Met l y ws rm (ck_P G H (.ref b :: As)) (ck_Qi G post) mc ms (ck_A G)) (cw : CallW R s args own C index y bytes maxL ret ws rm mc ms n) (hrc : ∃ cellB : Cell, H[b]? = some cellB ∧ cellB.vm.isStatics = false ∧ s.vm.findClass C = some cellB.cls) (hn : As.length = n) (hl : lv_has ls nL lv) (hst : st = As.reverse ++ .ref b :: rest) (hcat : (rest.map fun v => v.category).sum ≤ 8) (hdg : decode cc pc = .ok (.invokevirtual index, 3)) (hf : cells + mc ≤ R.cells ∧ slots + ms ≤ R.slots) (hS : va_S (ck_A G) H0 H locs)
    (kk : ∀ (r : Int32) (H1 : Heap) (locs1 : List Loc), post r H1 → H.size ≤ H1.size → va_S (ck_A G) H0 H1 locs1 → W p l e R s m args below meth c H1 locs1 (cells + mc) (slots + ms) Q (F0 m (pc + 3) ls (.int r :: rest))) : W p l e R s m args below meth c H locs cells slots Q (F0 m pc ls st) := by
  intro T hT X
  obtain ⟨v, st₀, t, T', L, h0, X', hL, e1, ⟨⟨r, hv, hp⟩, hF⟩, st⟩ := (W.runV (g := F0 m pc ls st) S hM cw ⟨ck_blind, hrc, ck_pre hKK⟩ rfl hn hl.1 hst (lv_room hcat) hdg hf) T hT X
  cases hv
  obtain ⟨k1, k2⟩ := ck_sKeep hS h0 hF hL
  obtain ⟨t2, a1, b1⟩ := kk r t.heap (locs ++ L) hp k2 k1 T' e1 X'
  exact ⟨t2, st t2 a1, b1⟩
theorem ck_cVr {post : Option Nat → Heap → Prop} (S : CallFix p m c cc nL s args Ts own) (hKK : ck_K G H s) (hM : Met l y ws rm (ck_P G H (.ref b :: As)) (ck_Qr G post) mc ms (ck_A G)) (cw : CallW R s args own C index y bytes maxL ret ws rm mc ms n) (hrc : ∃ cellB : Cell, H[b]? = some cellB ∧ cellB.vm.isStatics = false ∧ s.vm.findClass C = some cellB.cls) (hn : As.length = n) (hl : lv_has ls nL lv) (hst : st = As.reverse ++ .ref b :: rest) (hcat : (rest.map fun v => v.category).sum ≤ 8) (hdg : decode cc pc = .ok (.invokevirtual index, 3)) (hf : cells + mc ≤ R.cells ∧ slots + ms ≤ R.slots) (hS : va_S (ck_A G) H0 H locs)
    (kk : ∀ (r : Option Nat) (H1 : Heap) (locs1 : List Loc), post r H1 → H.size ≤ H1.size → va_S (ck_A G) H0 H1 locs1 → W p l e R s m args below meth c H1 locs1 (cells + mc) (slots + ms) Q (F0 m (pc + 3) ls (va_rf r :: rest))) : W p l e R s m args below meth c H locs cells slots Q (F0 m pc ls st) := by
  intro T hT X
  obtain ⟨v, st₀, t, T', L, h0, X', hL, e1, ⟨⟨r, hv, hp⟩, hF⟩, st⟩ := (W.runV (g := F0 m pc ls st) S hM cw ⟨ck_blind, hrc, ck_pre hKK⟩ rfl hn hl.1 hst (lv_room hcat) hdg hf) T hT X
  cases hv
  obtain ⟨k1, k2⟩ := ck_sKeep hS h0 hF hL
  obtain ⟨t2, a1, b1⟩ := kk r t.heap (locs ++ L) hp k2 k1 T' e1 X'
  exact ⟨t2, st t2 a1, b1⟩
theorem ck_cVn {post : Heap → Prop} (S : CallFix p m c cc nL s args Ts own) (hKK : ck_K G H s) (hM : Met l y ws rm (ck_P G H (.ref b :: As)) (ck_Qv G post) mc ms (ck_A G)) (cw : CallW R s args own C index y bytes maxL ret ws rm mc ms n) (hrc : ∃ cellB : Cell, H[b]? = some cellB ∧ cellB.vm.isStatics = false ∧ s.vm.findClass C = some cellB.cls) (hn : As.length = n) (hl : lv_has ls nL lv) (hst : st = As.reverse ++ .ref b :: rest) (hcat : (rest.map fun v => v.category).sum ≤ 8) (hdg : decode cc pc = .ok (.invokevirtual index, 3)) (hf : cells + mc ≤ R.cells ∧ slots + ms ≤ R.slots) (hS : va_S (ck_A G) H0 H locs)
    (kk : ∀ (H1 : Heap) (locs1 : List Loc), post H1 → H.size ≤ H1.size → va_S (ck_A G) H0 H1 locs1 → W p l e R s m args below meth c H1 locs1 (cells + mc) (slots + ms) Q (F0 m (pc + 3) ls rest)) : W p l e R s m args below meth c H locs cells slots Q (F0 m pc ls st) := by
  intro T hT X
  obtain ⟨v, st₀, t, T', L, h0, X', hL, e1, ⟨⟨hv, hp⟩, hF⟩, st⟩ := (W.runV (g := F0 m pc ls st) S hM cw ⟨ck_blind, hrc, ck_pre hKK⟩ rfl hn hl.1 hst (lv_room hcat) hdg hf) T hT X
  cases hv
  obtain ⟨k1, k2⟩ := ck_sKeep hS h0 hF hL
  obtain ⟨t2, a1, b1⟩ := kk t.heap (locs ++ L) hp k2 k1 T' e1 X'
  exact ⟨t2, st t2 a1, b1⟩
end CKC
/-- a loop that counts from 0 to nN over locals lv k -/
theorem ck_loop {P : Array Slot → Prop} {nL : Nat} {ls : Array Slot} (nN : Nat) (lv : Nat → List (Nat × Value)) (I : Nat → Prop) (h0 : lv_has ls nL (lv 0)) (i0 : I 0) (hexit : ∀ ls, lv_has ls nL (lv nN) → I nN → P ls) (hstep : ∀ k, k < nN → I k → (∀ ls, lv_has ls nL (lv (k + 1)) → I (k + 1) → P ls) → ∀ ls, lv_has ls nL (lv k) → P ls) : P ls := by
  have key : ∀ n k, k + n = nN → I k → ∀ ls, lv_has ls nL (lv k) → P ls := by
    intro n
    induction n with
    | zero => intro k hk hi ls hl; have : k = nN := by omega
              subst this; exact hexit ls hl hi
    | succ n ih => intro k hk hi ls hl; exact hstep k (by omega) hi (fun ls hl hi => ih (k + 1) (by omega) hi ls hl) ls hl
  exact key nN 0 (by omega) i0 ls h0
/-- the same over a heap that changes -/
theorem ck_loopW {P : Array Slot → Heap → List Loc → Prop} {nL : Nat} {ls : Array Slot} {H : Heap} {locs : List Loc} (nN : Nat) (lv : Nat → List (Nat × Value)) (I : Nat → Heap → List Loc → Prop) (h0 : lv_has ls nL (lv 0)) (i0 : I 0 H locs) (hexit : ∀ ls H locs, lv_has ls nL (lv nN) → I nN H locs → P ls H locs) (hstep : ∀ k, k < nN → (∀ ls H locs, lv_has ls nL (lv (k + 1)) → I (k + 1) H locs → P ls H locs) → ∀ ls H locs, lv_has ls nL (lv k) → I k H locs → P ls H locs) : P ls H locs := by
  have key : ∀ n k, k + n = nN → ∀ ls H locs, lv_has ls nL (lv k) → I k H locs → P ls H locs := by
    intro n
    induction n with
    | zero => intro k hk ls H locs hl hi; have : k = nN := by omega
              subst this; exact hexit ls H locs hl hi
    | succ n ih => intro k hk ls H locs hl hi; exact hstep k (by omega) (fun ls H locs hl hi => ih (k + 1) (by omega) ls H locs hl hi) ls H locs hl hi
  exact key nN 0 (by omega) ls H locs h0 i0
