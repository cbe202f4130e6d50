section
-- ===== PART A: goes FIRST, ahead of the names: the tables' words, and 'selects' of the private methods out of them =====
/-- a private method of a class that the tables say can be made, by its rows of tables_1 -/
def lw_okq (q : MethodName × Nat) : Prop := (q.1.cls ≠ "java/lang/invoke/MethodHandle" ∧ q.1.cls ≠ "java/lang/invoke/VarHandle") ∧ Cond.instantiable q.1.cls q.2 ∈ tables_1 ∧ Cond.privateMethod q.1 ∈ tables_1 ∧ Cond.instanceMethod q.1 ∈ tables_1
theorem lw_p0 : lw_okq (⟨"CarrierDesk", "chargeNow", "(LCarrierDesk$Call;)I"⟩, 8) := ⟨⟨by decide +kernel, by decide +kernel⟩, List.mem_of_getElem? (i := 16) (by decide +kernel), List.mem_of_getElem? (i := 104) (by decide +kernel), List.mem_of_getElem? (i := 105) (by decide +kernel)⟩
theorem lw_p1 : lw_okq (⟨"CarrierDesk", "rateInForce", "(II)LCarrierDesk$Rate;"⟩, 8) := ⟨⟨by decide +kernel, by decide +kernel⟩, List.mem_of_getElem? (i := 16) (by decide +kernel), List.mem_of_getElem? (i := 112) (by decide +kernel), List.mem_of_getElem? (i := 113) (by decide +kernel)⟩
theorem lw_p2 : lw_okq (⟨"CarrierDesk", "changeByCorrecting", "(LCarrierDesk$Call;)I"⟩, 8) := ⟨⟨by decide +kernel, by decide +kernel⟩, List.mem_of_getElem? (i := 16) (by decide +kernel), List.mem_of_getElem? (i := 137) (by decide +kernel), List.mem_of_getElem? (i := 138) (by decide +kernel)⟩
theorem lw_p3 : lw_okq (⟨"java/lang/Throwable", "fillInStackTrace", "(I)Ljava/lang/Throwable;"⟩, 6) := ⟨⟨by decide +kernel, by decide +kernel⟩, List.mem_of_getElem? (i := 195) (by decide +kernel), List.mem_of_getElem? (i := 193) (by decide +kernel), List.mem_of_getElem? (i := 194) (by decide +kernel)⟩
theorem lw_p4 : lw_okq (⟨"CarrierDesk", "sourceAt", "(I)LCarrierDesk$Source;"⟩, 8) := ⟨⟨by decide +kernel, by decide +kernel⟩, List.mem_of_getElem? (i := 16) (by decide +kernel), List.mem_of_getElem? (i := 233) (by decide +kernel), List.mem_of_getElem? (i := 234) (by decide +kernel)⟩
theorem lw_p5 : lw_okq (⟨"CarrierDesk", "callJoinedBy", "(IIII)LCarrierDesk$Call;"⟩, 8) := ⟨⟨by decide +kernel, by decide +kernel⟩, List.mem_of_getElem? (i := 16) (by decide +kernel), List.mem_of_getElem? (i := 250) (by decide +kernel), List.mem_of_getElem? (i := 251) (by decide +kernel)⟩
theorem lw_p6 : lw_okq (⟨"CarrierDesk", "newCall", "(III)LCarrierDesk$Call;"⟩, 8) := ⟨⟨by decide +kernel, by decide +kernel⟩, List.mem_of_getElem? (i := 16) (by decide +kernel), List.mem_of_getElem? (i := 265) (by decide +kernel), List.mem_of_getElem? (i := 266) (by decide +kernel)⟩
theorem lw_p7 : lw_okq (⟨"CarrierDesk", "callAt", "(I)LCarrierDesk$Call;"⟩, 8) := ⟨⟨by decide +kernel, by decide +kernel⟩, List.mem_of_getElem? (i := 16) (by decide +kernel), List.mem_of_getElem? (i := 361) (by decide +kernel), List.mem_of_getElem? (i := 362) (by decide +kernel)⟩
theorem lw_p8 : lw_okq (⟨"CarrierDesk", "carrierAt", "(I)LCarrierDesk$Carrier;"⟩, 8) := ⟨⟨by decide +kernel, by decide +kernel⟩, List.mem_of_getElem? (i := 16) (by decide +kernel), List.mem_of_getElem? (i := 496) (by decide +kernel), List.mem_of_getElem? (i := 497) (by decide +kernel)⟩
theorem lw_p9 : lw_okq (⟨"CarrierDesk$Carrier", "placeOf", "(I)I"⟩, 2) := ⟨⟨by decide +kernel, by decide +kernel⟩, List.mem_of_getElem? (i := 53) (by decide +kernel), List.mem_of_getElem? (i := 505) (by decide +kernel), List.mem_of_getElem? (i := 506) (by decide +kernel)⟩
theorem lw_p10 : lw_okq (⟨"CarrierDesk", "carrierOfRank", "(III)I"⟩, 8) := ⟨⟨by decide +kernel, by decide +kernel⟩, List.mem_of_getElem? (i := 16) (by decide +kernel), List.mem_of_getElem? (i := 536) (by decide +kernel), List.mem_of_getElem? (i := 537) (by decide +kernel)⟩
theorem lw_p11 : lw_okq (⟨"CarrierDesk", "priceOf", "(II)I"⟩, 8) := ⟨⟨by decide +kernel, by decide +kernel⟩, List.mem_of_getElem? (i := 16) (by decide +kernel), List.mem_of_getElem? (i := 540) (by decide +kernel), List.mem_of_getElem? (i := 541) (by decide +kernel)⟩
theorem lw_p12 : lw_okq (⟨"CarrierDesk", "carriersBefore", "(III)I"⟩, 8) := ⟨⟨by decide +kernel, by decide +kernel⟩, List.mem_of_getElem? (i := 16) (by decide +kernel), List.mem_of_getElem? (i := 544) (by decide +kernel), List.mem_of_getElem? (i := 545) (by decide +kernel)⟩
theorem lw_p13 : lw_okq (⟨"CarrierDesk", "differenceUnder", "(I)I"⟩, 8) := ⟨⟨by decide +kernel, by decide +kernel⟩, List.mem_of_getElem? (i := 16) (by decide +kernel), List.mem_of_getElem? (i := 565) (by decide +kernel), List.mem_of_getElem? (i := 566) (by decide +kernel)⟩
theorem lw_p14 : lw_okq (⟨"CarrierDesk", "withWorstDigit", "(I)I"⟩, 8) := ⟨⟨by decide +kernel, by decide +kernel⟩, List.mem_of_getElem? (i := 16) (by decide +kernel), List.mem_of_getElem? (i := 582) (by decide +kernel), List.mem_of_getElem? (i := 583) (by decide +kernel)⟩
theorem lw_p15 : lw_okq (⟨"CarrierDeskModel", "asks", "(Z)Z"⟩, 26) := ⟨⟨by decide +kernel, by decide +kernel⟩, List.mem_of_getElem? (i := 595) (by decide +kernel), List.mem_of_getElem? (i := 691) (by decide +kernel), List.mem_of_getElem? (i := 692) (by decide +kernel)⟩
def lw_privs_1 : List (MethodName × Nat) := [(⟨"CarrierDesk", "chargeNow", "(LCarrierDesk$Call;)I"⟩, 8), (⟨"CarrierDesk", "rateInForce", "(II)LCarrierDesk$Rate;"⟩, 8), (⟨"CarrierDesk", "changeByCorrecting", "(LCarrierDesk$Call;)I"⟩, 8), (⟨"java/lang/Throwable", "fillInStackTrace", "(I)Ljava/lang/Throwable;"⟩, 6), (⟨"CarrierDesk", "sourceAt", "(I)LCarrierDesk$Source;"⟩, 8), (⟨"CarrierDesk", "callJoinedBy", "(IIII)LCarrierDesk$Call;"⟩, 8), (⟨"CarrierDesk", "newCall", "(III)LCarrierDesk$Call;"⟩, 8), (⟨"CarrierDesk", "callAt", "(I)LCarrierDesk$Call;"⟩, 8), (⟨"CarrierDesk", "carrierAt", "(I)LCarrierDesk$Carrier;"⟩, 8), (⟨"CarrierDesk$Carrier", "placeOf", "(I)I"⟩, 2), (⟨"CarrierDesk", "carrierOfRank", "(III)I"⟩, 8), (⟨"CarrierDesk", "priceOf", "(II)I"⟩, 8), (⟨"CarrierDesk", "carriersBefore", "(III)I"⟩, 8), (⟨"CarrierDesk", "differenceUnder", "(I)I"⟩, 8), (⟨"CarrierDesk", "withWorstDigit", "(I)I"⟩, 8), (⟨"CarrierDeskModel", "asks", "(Z)Z"⟩, 26)]
theorem lw_r1 : ∀ q ∈ lw_privs_1, lw_okq q := List.forall_mem_cons.mpr ⟨lw_p0, List.forall_mem_cons.mpr ⟨lw_p1, List.forall_mem_cons.mpr ⟨lw_p2, List.forall_mem_cons.mpr ⟨lw_p3, List.forall_mem_cons.mpr ⟨lw_p4, List.forall_mem_cons.mpr ⟨lw_p5, List.forall_mem_cons.mpr ⟨lw_p6, List.forall_mem_cons.mpr ⟨lw_p7, List.forall_mem_cons.mpr ⟨lw_p8, List.forall_mem_cons.mpr ⟨lw_p9, List.forall_mem_cons.mpr ⟨lw_p10, List.forall_mem_cons.mpr ⟨lw_p11, List.forall_mem_cons.mpr ⟨lw_p12, List.forall_mem_cons.mpr ⟨lw_p13, List.forall_mem_cons.mpr ⟨lw_p14, List.forall_mem_cons.mpr ⟨lw_p15, fun _ h => absurd h List.not_mem_nil⟩⟩⟩⟩⟩⟩⟩⟩⟩⟩⟩⟩⟩⟩⟩⟩
theorem lw_p16 : lw_okq (⟨"CarrierDeskModel", "joined", "(IIII)I"⟩, 26) := ⟨⟨by decide +kernel, by decide +kernel⟩, List.mem_of_getElem? (i := 595) (by decide +kernel), List.mem_of_getElem? (i := 704) (by decide +kernel), List.mem_of_getElem? (i := 705) (by decide +kernel)⟩
theorem lw_p17 : lw_okq (⟨"CarrierDeskModel", "fails", "(I)I"⟩, 26) := ⟨⟨by decide +kernel, by decide +kernel⟩, List.mem_of_getElem? (i := 595) (by decide +kernel), List.mem_of_getElem? (i := 711) (by decide +kernel), List.mem_of_getElem? (i := 712) (by decide +kernel)⟩
theorem lw_p18 : lw_okq (⟨"CarrierDeskModel", "isCall", "(I)Z"⟩, 26) := ⟨⟨by decide +kernel, by decide +kernel⟩, List.mem_of_getElem? (i := 595) (by decide +kernel), List.mem_of_getElem? (i := 731) (by decide +kernel), List.mem_of_getElem? (i := 732) (by decide +kernel)⟩
theorem lw_p19 : lw_okq (⟨"CarrierDeskModel", "rate", "(II)I"⟩, 26) := ⟨⟨by decide +kernel, by decide +kernel⟩, List.mem_of_getElem? (i := 595) (by decide +kernel), List.mem_of_getElem? (i := 751) (by decide +kernel), List.mem_of_getElem? (i := 752) (by decide +kernel)⟩
theorem lw_p20 : lw_okq (⟨"CarrierDeskModel", "chargeOf", "(I)I"⟩, 26) := ⟨⟨by decide +kernel, by decide +kernel⟩, List.mem_of_getElem? (i := 595) (by decide +kernel), List.mem_of_getElem? (i := 762) (by decide +kernel), List.mem_of_getElem? (i := 763) (by decide +kernel)⟩
theorem lw_p21 : lw_okq (⟨"CarrierDeskModel", "bookedOf", "(I)I"⟩, 26) := ⟨⟨by decide +kernel, by decide +kernel⟩, List.mem_of_getElem? (i := 595) (by decide +kernel), List.mem_of_getElem? (i := 786) (by decide +kernel), List.mem_of_getElem? (i := 787) (by decide +kernel)⟩
theorem lw_p22 : lw_okq (⟨"CarrierDeskModel", "offerOf", "(II)I"⟩, 26) := ⟨⟨by decide +kernel, by decide +kernel⟩, List.mem_of_getElem? (i := 595) (by decide +kernel), List.mem_of_getElem? (i := 798) (by decide +kernel), List.mem_of_getElem? (i := 799) (by decide +kernel)⟩
theorem lw_p23 : lw_okq (⟨"CarrierDeskModel", "differs", "(I)I"⟩, 26) := ⟨⟨by decide +kernel, by decide +kernel⟩, List.mem_of_getElem? (i := 595) (by decide +kernel), List.mem_of_getElem? (i := 815) (by decide +kernel), List.mem_of_getElem? (i := 816) (by decide +kernel)⟩
def lw_privs_2 : List (MethodName × Nat) := [(⟨"CarrierDeskModel", "joined", "(IIII)I"⟩, 26), (⟨"CarrierDeskModel", "fails", "(I)I"⟩, 26), (⟨"CarrierDeskModel", "isCall", "(I)Z"⟩, 26), (⟨"CarrierDeskModel", "rate", "(II)I"⟩, 26), (⟨"CarrierDeskModel", "chargeOf", "(I)I"⟩, 26), (⟨"CarrierDeskModel", "bookedOf", "(I)I"⟩, 26), (⟨"CarrierDeskModel", "offerOf", "(II)I"⟩, 26), (⟨"CarrierDeskModel", "differs", "(I)I"⟩, 26)]
theorem lw_r2 : ∀ q ∈ lw_privs_2, lw_okq q := List.forall_mem_cons.mpr ⟨lw_p16, List.forall_mem_cons.mpr ⟨lw_p17, List.forall_mem_cons.mpr ⟨lw_p18, List.forall_mem_cons.mpr ⟨lw_p19, List.forall_mem_cons.mpr ⟨lw_p20, List.forall_mem_cons.mpr ⟨lw_p21, List.forall_mem_cons.mpr ⟨lw_p22, List.forall_mem_cons.mpr ⟨lw_p23, fun _ h => absurd h List.not_mem_nil⟩⟩⟩⟩⟩⟩⟩⟩
def lw_privs : List (MethodName × Nat) := lw_privs_1 ++ (lw_privs_2)
def lw_tbl : List Cond := k2_sels lw_privs ++ tables_1
theorem lw_privs_ok : ∀ q ∈ lw_privs, lw_okq q := by
  show ∀ q ∈ lw_privs_1 ++ (lw_privs_2), lw_okq q
  exact List.forall_mem_append.mpr ⟨lw_r1, lw_r2⟩
-- ===== end of PART A; then your names; then what follows =====
end
section
/-! ===== BEGIN words of one list among another's, by their places ===== -/
theorem goodIn_r {big : List Cond} (ws : List Cond) (ps : List Nat) (hp : ws = ps.filterMap (fun i => big[i]?)) (h : ws.all goodWord = true) : GoodIn big ws := by
  intro w hw
  have h1 := List.all_eq_true.mp h w hw
  rw [hp] at hw
  obtain ⟨i, -, hi⟩ := List.mem_filterMap.mp hw
  have hm : w ∈ big := by first | exact List.mem_of_getElem? hi | exact List.getElem?_mem hi
  exact ⟨hm, good_of_word h1⟩
theorem goodIn_app {big a b : List Cond} (ha : GoodIn big a) (hb : GoodIn big b) : GoodIn big (a ++ b) := fun w h => (List.mem_append.mp h).elim (ha w) (hb w)
theorem goodIn_ca {big a b : List Cond} {c : Cond} (ha : GoodIn big (c :: a)) (hb : GoodIn big b) : GoodIn big (c :: (a ++ b)) := fun w h => (List.mem_cons.mp h).elim (fun e => ha w (List.mem_cons.mpr (Or.inl e))) (fun h => (List.mem_append.mp h).elim (fun h => ha w (List.mem_cons.mpr (Or.inr h))) (hb w))
theorem goodIn_sub {big ws : List Cond} (hm : ∀ w ∈ ws, w ∈ big) (h : ws.all goodWord = true) : GoodIn big ws := fun w hw => ⟨hm w hw, good_of_word (List.all_eq_true.mp h w hw)⟩
/-! ===== END ===== -/

/-! ===== BEGIN exceptions that leave a method, and their catching by the caller (launches without stack traces) ===== -/
section VXA
/-! The laws vx_back, vx_callV, vx_callS, vx_callSW, vx_throw0, vx_throwS follow proofs of the library, with one case more: JvmDerived/Free/Laws.lean (Back.of_free), Shelf42/LK1.lean (callV, callS), Shelf/KitTraced.lean (throwNew0V, throwNewS). -/
/-- where a method has thrown q: the class by its name, the cell, what was written, the world -/
def vx_T (XC : String → State → State → Prop) (st : State) (q : Addr) (t : State) (mc ms : Nat) (free : Addr → Prop) : Prop :=
  ∃ (E : String) (ce : Cell) (L : List Loc), XC E st t ∧ t.heap[q]? = some ce ∧ ce.vm = .none ∧ st.vm.findClass E = some ce.cls ∧ st.WarmedH t.vm ∧ st.sameButNew ({ t with vm := st.vm } : State) L mc ms ∧ ∀ z ∈ L, free z.base
def vx_Q (Qc : Array Value → State → Outcome → State → Prop) (XC : String → State → State → Prop) (mc ms : Nat) (free : Addr → Prop) : Array Value → State → Outcome → State → Prop := fun a st o t =>
  (Qc a st o t ∧ ∃ L, FrameEnd st o t L mc ms ∧ ∀ q ∈ L, free q.base) ∨ ∃ q, o = .threw q ∧ vx_T XC st q t mc ms free
/-- a callee that returns or throws -/
def vx_Met (l : Launch) (y : MethodName) (ws : List Cond) (rm : Room) (Pc : Array Value → State → Prop) (Qc : Array Value → State → Outcome → State → Prop) (XC : String → State → State → Prop) (mc ms : Nat) (free : Addr → Prop) : Prop :=
  MetFree l y (headSpec ws rm) Pc (fun _ _ _ _ _ => True) (vx_Q Qc XC mc ms free)
def vx_Post (XC : String → State → State → Prop) (mc ms : Nat) (free : Addr → Prop) : Pt → Array Value → Addr → Pt → Prop := fun A a q B =>
  ∃ (g : JFrame) (mk : MethodId) (t : State) (L : List Loc) (E : String) (ce : Cell), B.U.heap = t.heap ∧ B.U.vm = t.vm ∧ XC E (A.U.calling g mk a) t ∧ t.heap[q]? = some ce ∧ ce.vm = .none ∧ A.U.vm.findClass E = some ce.cls ∧ B.locs = A.locs ++ L ∧ (∀ z ∈ L, free z.base) ∧ B.cells = A.cells + mc ∧ B.slots = A.slots + ms
def vx_Back (l : Launch) (R : Room) (p : Program) (e : Env) (below : List Frame) (s : State) (sargs : Array Value) (y : MethodName) (len W9 : Nat)
    (Pre : Pt → Array Value → Prop) (Post : Pt → Array Value → Option Value → Pt → Prop) (PostX : Pt → Array Value → Addr → Pt → Prop) : Prop :=
  ∀ (m : MethodId) (meth : Method) (c : Code) (A : Pt) (g : JFrame) (ig : Instr) (mk : MethodId) (a : Array Value),
    Stand p l e R s m sargs below meth c A.U A.locs A.cells A.slots → g.method = m → g.locals.size = c.maxLocals → decode c.code g.pc = .ok (ig, len) →
    2 * g.monitorRoom + (g.stack.map fun v => v.category).sum ≤ W9 → A.U.methodNamed? y = some mk → Pre A a →
    (∃ (v : Option Value) (B : Pt), Stand p l e R s m sargs below meth c B.U B.locs B.cells B.slots ∧ Post A a v B ∧
      Steps p.tables e below (doInvoke e (A.U.setTop g) [] mk a).1 (B.U.setTop { g with pc := g.pc + len, stack := v.toList ++ g.stack })) ∨
    (∃ (q : Addr) (B : Pt), Stand p l e R s m sargs below meth c B.U B.locs B.cells B.slots ∧ PostX A a q B ∧
      Steps p.tables e below (doInvoke e (A.U.setTop g) [] mk a).1 ((B.U.setTop g).pushFrame (.throwing q)))
section Payer
variable {l : Launch} {R : Room} {p : Program} {e : Env} {below : List Frame} {s : State} {sargs : Array Value} {y : MethodName} {len W9 : Nat}
theorem vx_back {ws : List Cond} {rm : Room} {Pc : Array Value → State → Prop} {Qc : Array Value → State → Outcome → State → Prop} {XC : String → State → State → Prop} {mc ms : Nat} {free : Addr → Prop} {bytes : ByteArray} {maxL : Nat} {ret : Option FieldType}
    (hM : vx_Met l y ws rm Pc Qc XC mc ms free) (hblind : FrameBlind Pc) (hrc : rm.cells = mc) (hrs : rm.slots = ms)
    (hframes : rm.frames + 1 ≤ R.frames) (hlocals : W9 + (maxL + 11) + rm.locals ≤ R.locals)
    (hws : ∀ w ∈ ws, ∀ a' U, s.WarmedH U.vm → w.before a' U = true) (hcode : Cond.code y bytes maxL ret ∈ ws) (hinit : ∀ a' U, s.WarmedH U.vm → (Cond.initialized y.cls).before a' U = true) :
    vx_Back l R p e below s sargs y len W9 (PreOf R mc ms Pc) (PostOf Qc mc ms free) (vx_Post XC mc ms free) := by
  intro m meth c A g ig mk a X hg hsize hdg hW hn hp
  have h1 : (headSpec ws rm).pre.before a A.U = true := atoms_intro fun w hw => hws w hw _ _ X.warmed
  have h2 : (Cond.code y bytes maxL ret).before a A.U = true := hws _ hcode _ _ X.warmed
  have h3 : (Cond.initialized y.cls).before a A.U = true := hinit _ _ X.warmed
  have h4 : A.cells + (headSpec ws rm).room.cells ≤ R.cells := by rw [show (headSpec ws rm).room.cells = mc from hrc]; exact hp.1
  have h5 : A.slots + (headSpec ws rm).room.slots ≤ R.slots := by rw [show (headSpec ws rm).room.slots = ms from hrs]; exact hp.2.1
  have hPc : Pc a (A.U.calling g mk a) := hblind _ _ _ _ hp.2.2
  obtain ⟨U, Ls, c0, s0⟩ := A
  dsimp only [Pt.U, Pt.locs, Pt.cells, Pt.slots] at h1 h2 h3 h4 h5 X hn hPc ⊢
  obtain ⟨methY, cY, hmY, hcY, -, hlY, -, -, -, -⟩ := Cond.code_spec hn h2
  obtain ⟨kY, hkY, -⟩ := className_of_methodNamed hn
  have hinitY : kY.init = .initialized := Cond.initialized_spec (findClass_of_methodNamed hn) hkY h3
  have h : At U g.method c below := by rw [hg]; exact X.here
  have hlocals9 : W9 + (maxL + 11) + (headSpec ws rm).room.locals ≤ R.locals := hlocals
  have happ : (headSpec ws rm).appliesLoose y e.platform (U.calling g mk a) = true :=
    Spec.appliesLoose_calling (g := g) h hdg hn hkY hinitY
      (X.room_calling (g := g) (R' := (headSpec ws rm).room) hsize hmY hcY hframes (by rw [hlY]; omega) h4 h5) h1
  obtain ⟨mid, hmid⟩ := h.above
  have hfr : (U.setTop g).frames = (.java g :: mid) ++ below := by rw [State.frames_setTop' g h.top, hmid]; rfl
  obtain ⟨o, s₂, hsteps, -, hend, hq⟩ := Steps.callFree hM p X.admits X.cas X.clock (acts := []) hfr happ hPc trivial
  have hq' : vx_Q Qc XC mc ms free a (U.calling g mk a) o s₂ := hq
  rw [State.frames_setTop' g h.top] at hend
  obtain ⟨g₀, hg0⟩ := Option.isSome_iff_exists.mp h.top
  obtain ⟨r, hr⟩ := State.topJava?_eq_some.mp hg0
  have hr' : (({ U with heap := s₂.heap, slotsUsed := s₂.slotsUsed } : State).setVm s₂.vm).frames = .java g₀ :: r := hr
  rcases hq' with ⟨hqc, L, hfe, hL⟩ | ⟨q, rfl, E, ce, L, hx, hce, hcv, hcl, hW₂, hsm, hL⟩
  · obtain ⟨⟨v, rfl⟩, hW₂, e2, q2, q3, q4, q5, q6⟩ := id hfe
    have e3 : s₂ = ({ (U.calling g mk a).setFrames s₂.frames with heap := s₂.heap, slotsUsed := s₂.slotsUsed } : State).setVm s₂.vm := by
      have : s₂ = ({ s₂ with vm := (U.calling g mk a).vm } : State).setVm s₂.vm := rfl
      rw [e2] at this
      exact this
    obtain ⟨c₂, i₂, len₂, hc₂, hd₂, hf₂⟩ := hend
    have hW' : U.WarmedH s₂.vm := hW₂
    have hcc : c₂ = c := by
      have h1 : s₂.code? g.method = U.code? g.method := by
        rw [State.code?_eq, State.code?_eq, hW'.alike.method?]
      exact Option.some.inj (hc₂.symm.trans (h1.trans h.code))
    subst hcc
    have hlen : len₂ = len := by rw [hdg] at hd₂; cases hd₂; rfl
    subst hlen
    have hs₂ : s₂ = (({ U with heap := s₂.heap, slotsUsed := s₂.slotsUsed } : State).setVm s₂.vm).setTop { g with pc := g.pc + len₂, stack := v.toList ++ g.stack } := by
      refine e3.trans ?_
      rw [hf₂, State.calling_eq h.top, State.setFrames_setFrames, State.setTop_of_frames _ hr', hr]
      rfl
    have hsame : U.sameButNew ({ U with heap := s₂.heap, slotsUsed := s₂.slotsUsed } : State) L mc ms := by
      refine ⟨?_, q2, q3, q4, q5, q6⟩
      obtain ⟨t, ht, -⟩ := State.frames_cons hr
      show ({ U with heap := s₂.heap, slotsUsed := s₂.slotsUsed } : State) = { U.setFrames U.frames with heap := s₂.heap, slotsUsed := s₂.slotsUsed }
      rw [State.setFrames_self ht]
    subst hg
    refine Or.inl ⟨v, ⟨(({ U with heap := s₂.heap, slotsUsed := s₂.slotsUsed } : State).setVm s₂.vm), Ls ++ L, c0 + mc, s0 + ms⟩,
      ⟨X.admits, X.cas, X.clock, X.frames, X.room, X.hears, X.method, X.code, (X.here.setHeapUsed s₂.heap s₂.slotsUsed).setVm hW'.alike, X.tail, State.WarmedH.trans X.warmed hW', X.limits, X.bytes, X.same.trans (hsame.setVm s.vm)⟩,
      ⟨g, mk, s₂, L, rfl, rfl, hqc, rfl, hL, rfl, rfl⟩, ?_⟩
    show Steps p.tables e below _ ((({ U with heap := s₂.heap, slotsUsed := s₂.slotsUsed } : State).setVm s₂.vm).setTop { g with pc := g.pc + len₂, stack := v.toList ++ g.stack })
    rw [← hs₂]
    exact hsteps
  · obtain ⟨e2, q2, q3, q4, q5, q6⟩ := id hsm
    have e3 : s₂ = ({ (U.calling g mk a).setFrames s₂.frames with heap := s₂.heap, slotsUsed := s₂.slotsUsed } : State).setVm s₂.vm := by
      have : s₂ = ({ s₂ with vm := (U.calling g mk a).vm } : State).setVm s₂.vm := rfl
      rw [e2] at this
      exact this
    have hf₂ : s₂.frames = .throwing q :: .java g :: U.frames.tail := hend
    have hW' : U.WarmedH s₂.vm := hW₂
    have hs₂ : s₂ = ((({ U with heap := s₂.heap, slotsUsed := s₂.slotsUsed } : State).setVm s₂.vm).setTop g).pushFrame (.throwing q) := by
      refine e3.trans ?_
      rw [hf₂, State.calling_eq h.top, State.setFrames_setFrames, State.pushFrame, State.frames_setTop _ hr', State.setTop_of_frames _ hr', State.setFrames_setFrames, hr]
      rfl
    have hsame : U.sameButNew ({ U with heap := s₂.heap, slotsUsed := s₂.slotsUsed } : State) L mc ms := by
      refine ⟨?_, q2, q3, q4, q5, q6⟩
      obtain ⟨t, ht, -⟩ := State.frames_cons hr
      show ({ U with heap := s₂.heap, slotsUsed := s₂.slotsUsed } : State) = { U.setFrames U.frames with heap := s₂.heap, slotsUsed := s₂.slotsUsed }
      rw [State.setFrames_self ht]
    subst hg
    refine Or.inr ⟨q, ⟨(({ U with heap := s₂.heap, slotsUsed := s₂.slotsUsed } : State).setVm s₂.vm), Ls ++ L, c0 + mc, s0 + ms⟩,
      ⟨X.admits, X.cas, X.clock, X.frames, X.room, X.hears, X.method, X.code, (X.here.setHeapUsed s₂.heap s₂.slotsUsed).setVm hW'.alike, X.tail, State.WarmedH.trans X.warmed hW', X.limits, X.bytes, X.same.trans (hsame.setVm s.vm)⟩,
      ⟨g, mk, s₂, L, E, ce, rfl, rfl, hx, hce, hcv, hcl, rfl, hL, rfl, rfl⟩, ?_⟩
    show Steps p.tables e below _ (((({ U with heap := s₂.heap, slotsUsed := s₂.slotsUsed } : State).setVm s₂.vm).setTop g).pushFrame (.throwing q))
    rw [← hs₂]
    exact hsteps
end Payer
section Calls
variable {p : Program} {l : Launch} {e : Env} {R : Room} {s : State} {m : MethodId} {args : Array Value} {below : List Frame} {meth : Method} {c : Code} {T : State} {locs : List Loc} {cells slots : Nat}
theorem vx_callV (X : Stand p l e R s m args below meth c T locs cells slots) (hexec : p.tables.exec = Jvm.exec) {own C : String} {index : Nat} {y : MethodName} {bytes : ByteArray} {maxL : Nat} {ret : Option FieldType}
    (hown : s.vm.findClass own = some m.cls) (hlink : (Cond.methodLink own index y).before args s = true) (hinst : (Cond.instanceMethod y).before args s = true) (hsel : (Cond.selects C y y).before args s = true)
    (hcode : (Cond.code y bytes maxL ret).before args s = true) (hy : y.cls ≠ "java/lang/invoke/MethodHandle" ∧ y.cls ≠ "java/lang/invoke/VarHandle")
    {W9 : Nat} {Pre : Pt → Array Value → Prop} {Post : Pt → Array Value → Option Value → Pt → Prop} {PostX : Pt → Array Value → Addr → Pt → Prop} (hK : vx_Back l R p e below s args y 3 W9 Pre Post PostX)
    {b : Addr} {cellB : Cell} (hcell : T.heap[b]? = some cellB) (hobj : cellB.vm.isStatics = false) (hcls : s.vm.findClass C = some cellB.cls)
    {g : JFrame} (hg : g.method = m) (hsize : g.locals.size = c.maxLocals) {argsL rest : List Value} (hlen : ∀ sig, parseMethodDescriptor y.desc = some sig → argsL.length = sig.parameters.length)
    (hstack : g.stack = argsL.reverse ++ .ref b :: rest) (hW : 2 * g.monitorRoom + (rest.map fun v => v.category).sum ≤ W9) (hdg : decode c.code g.pc = .ok (.invokevirtual index, 3))
    (hpre : ∀ vm₁, s.WarmedH vm₁ → Pre ⟨T.setVm vm₁, locs, cells, slots⟩ (Value.ref b :: argsL).toArray) :
    (∃ (v : Option Value) (vm₁ : Vm) (B : Pt), s.WarmedH vm₁ ∧ Stand p l e R s m args below meth c B.U B.locs B.cells B.slots ∧ Post ⟨T.setVm vm₁, locs, cells, slots⟩ (Value.ref b :: argsL).toArray v B ∧
      ∀ target, Steps p.tables e below (B.U.setTop { g with pc := g.pc + 3, stack := v.toList ++ rest }) target → Steps p.tables e below (T.setTop g) target) ∨
    (∃ (q : Addr) (vm₁ : Vm) (B : Pt), s.WarmedH vm₁ ∧ Stand p l e R s m args below meth c B.U B.locs B.cells B.slots ∧ PostX ⟨T.setVm vm₁, locs, cells, slots⟩ (Value.ref b :: argsL).toArray q B ∧
      Steps p.tables e below (T.setTop g) ((B.U.setTop { g with stack := rest }).pushFrame (.throwing q))) := by
  obtain ⟨mk, methM, hnamed, hmethM, hstM, habM⟩ := Cond.instanceMethod_spec hinst
  obtain ⟨methM', cM, hmethM', -, -, -, -, -, -, hsigM⟩ := Cond.code_spec hnamed hcode
  cases hmethM.symm.trans hmethM'
  obtain ⟨c2, r2, m2, q1, q2, q3, q4, kP, hkP, hkPi⟩ := Cond.selects_spec hsel
  cases hcls.symm.trans q1
  cases (State.methodFound?_of_named hnamed hy).symm.trans q2
  cases hnamed.symm.trans q3
  have hselP : selectMethod e.platform s.vm cellB.cls mk = .method mk := by rw [Launch.admits_selectMethod X.admits]; exact q4
  obtain ⟨vm₁, X₁, hstep₁⟩ := X.invokevirtual hexec hown hlink hnamed hmethM hstM hkP hkPi hy (a := b) (cell := cellB) hcell
    (fun z h => by rw [h] at hobj; cases hobj) hselP hmethM habM hkP hkPi (g := g) hg (argsL := argsL) (rest := rest) (hlen _ hsigM) hstack hdg
  rcases hK m meth c ⟨T.setVm vm₁, locs, cells, slots⟩ { g with stack := rest } (.invokevirtual index) mk (Value.ref b :: argsL).toArray X₁ hg hsize hdg hW (X₁.named hnamed) (hpre vm₁ X₁.warmed) with ⟨v, B, X', hpost, hsteps⟩ | ⟨q, B, X', hpost, hsteps⟩
  · exact Or.inl ⟨v, vm₁, B, X₁.warmed, X', hpost, fun target h => hstep₁ _ fun acts => by rw [doInvoke_state]; exact hsteps.trans h⟩
  · exact Or.inr ⟨q, vm₁, B, X₁.warmed, X', hpost, hstep₁ _ fun acts => by rw [doInvoke_state]; exact hsteps⟩
theorem vx_callS (X : Stand p l e R s m args below meth c T locs cells slots) (hexec : p.tables.exec = Jvm.exec) {own : String} {index : Nat} {y : MethodName} {bytes : ByteArray} {maxL : Nat} {ret : Option FieldType}
    (hown : s.vm.findClass own = some m.cls) (hlink : (Cond.methodLink own index y).before args s = true) (hstat : (Cond.static y).before args s = true) (hinit : (Cond.initialized y.cls).before args s = true)
    (hcode : (Cond.code y bytes maxL ret).before args s = true) (hy : y.cls ≠ "java/lang/invoke/MethodHandle" ∧ y.cls ≠ "java/lang/invoke/VarHandle")
    {W9 : Nat} {Pre : Pt → Array Value → Prop} {Post : Pt → Array Value → Option Value → Pt → Prop} {PostX : Pt → Array Value → Addr → Pt → Prop} (hK : vx_Back l R p e below s args y 3 W9 Pre Post PostX)
    {g : JFrame} (hg : g.method = m) (hsize : g.locals.size = c.maxLocals) {argsL rest : List Value} (hlen : ∀ sig, parseMethodDescriptor y.desc = some sig → argsL.length = sig.parameters.length)
    (hstack : g.stack = argsL.reverse ++ rest) (hW : 2 * g.monitorRoom + (rest.map fun v => v.category).sum ≤ W9) (hdg : decode c.code g.pc = .ok (.invokestatic index, 3))
    (hpre : ∀ vm₁, s.WarmedH vm₁ → Pre ⟨T.setVm vm₁, locs, cells, slots⟩ argsL.toArray) :
    (∃ (v : Option Value) (vm₁ : Vm) (B : Pt), s.WarmedH vm₁ ∧ Stand p l e R s m args below meth c B.U B.locs B.cells B.slots ∧ Post ⟨T.setVm vm₁, locs, cells, slots⟩ argsL.toArray v B ∧
      ∀ target, Steps p.tables e below (B.U.setTop { g with pc := g.pc + 3, stack := v.toList ++ rest }) target → Steps p.tables e below (T.setTop g) target) ∨
    (∃ (q : Addr) (vm₁ : Vm) (B : Pt), s.WarmedH vm₁ ∧ Stand p l e R s m args below meth c B.U B.locs B.cells B.slots ∧ PostX ⟨T.setVm vm₁, locs, cells, slots⟩ argsL.toArray q B ∧
      Steps p.tables e below (T.setTop g) ((B.U.setTop { g with stack := rest }).pushFrame (.throwing q))) := by
  obtain ⟨mk, hnamed⟩ := Cond.code_named hcode
  obtain ⟨methM, cM, hmethM, -, -, -, -, -, -, hsigM⟩ := Cond.code_spec hnamed hcode
  have hstatic : methM.isStatic = true := Cond.static_spec hnamed hmethM hstat
  obtain ⟨kP, hkP, -⟩ := className_of_methodNamed hnamed
  have hinitP : kP.init = .initialized := Cond.initialized_spec (findClass_of_methodNamed hnamed) hkP hinit
  obtain ⟨vm₁, X₁, hstep₁⟩ := X.invokestatic hexec hown hlink hnamed hmethM hstatic hkP hinitP hy (g := g) hg (argsL := argsL) (rest := rest) (hlen _ hsigM) hstack hdg
  rcases hK m meth c ⟨T.setVm vm₁, locs, cells, slots⟩ { g with stack := rest } (.invokestatic index) mk argsL.toArray X₁ hg hsize hdg hW (X₁.named hnamed) (hpre vm₁ X₁.warmed) with ⟨v, B, X', hpost, hsteps⟩ | ⟨q, B, X', hpost, hsteps⟩
  · exact Or.inl ⟨v, vm₁, B, X₁.warmed, X', hpost, fun target h => hstep₁ _ fun acts => by rw [doInvoke_state]; exact hsteps.trans h⟩
  · exact Or.inr ⟨q, vm₁, B, X₁.warmed, X', hpost, hstep₁ _ fun acts => by rw [doInvoke_state]; exact hsteps⟩
end Calls
theorem vx_cls {s : State} {T : State} {vm₁ : Vm} {E : String} {k : ClassId} (hW : s.WarmedH vm₁) (h : (T.setVm vm₁).vm.findClass E = some k) : s.vm.findClass E = some k := by
  have h1 : vm₁.findClass E = some k := h
  rw [hW.alike.findClass] at h1
  exact h1
/-- the method's frame g, with q thrown over it -/
def vx_W (p : Program) (l : Launch) (e : Env) (R : Room) (s : State) (m : MethodId) (args : Array Value) (below : List Frame) (meth : Method) (c : Code) (H : Heap) (locs : List Loc) (cells slots : Nat) (Q : State → Prop) (g : JFrame) (q : Addr) : Prop :=
  ∀ T : State, T.heap = H → Stand p l e R s m args below meth c T locs cells slots → ∃ t, Steps p.tables e below ((T.setTop g).pushFrame (.throwing q)) t ∧ Q t
def vx_Run (p : Program) (l : Launch) (e : Env) (R : Room) (s : State) (m : MethodId) (args : Array Value) (below : List Frame) (meth : Method) (c : Code) (H : Heap) (locs : List Loc) (cells slots mc ms : Nat) (g : JFrame) (rest : List Value) (Qa : State → Outcome → State → Prop) (XC : String → State → State → Prop) (free : Addr → Prop) : Prop :=
  ∀ T : State, T.heap = H → Stand p l e R s m args below meth c T locs cells slots →
    (∃ (v : Option Value) (st₀ t T' : State) (L : List Loc), st₀.heap = H ∧ Stand p l e R s m args below meth c T' (locs ++ L) (cells + mc) (slots + ms) ∧ (∀ q ∈ L, free q.base) ∧ T'.heap = t.heap ∧ T'.vm = t.vm ∧ Qa st₀ (.returned v) t ∧
      Goes p e below T g T' { g with pc := g.pc + 3, stack := v.toList ++ rest }) ∨
    (∃ (q : Addr) (st₀ t T' : State) (L : List Loc) (E : String) (ce : Cell), st₀.heap = H ∧ Stand p l e R s m args below meth c T' (locs ++ L) (cells + mc) (slots + ms) ∧ (∀ z ∈ L, free z.base) ∧ T'.heap = t.heap ∧ T'.vm = t.vm ∧ XC E st₀ t ∧ t.heap[q]? = some ce ∧ ce.vm = .none ∧ s.vm.findClass E = some ce.cls ∧
      Steps p.tables e below (T.setTop g) ((T'.setTop { g with stack := rest }).pushFrame (.throwing q)))
def vx_X {S : Type} (px : S → Prop) (B : String → S → State → Prop) (A : Nat → Prop) : String → State → State → Prop := fun E st t => ∃ u : S, px u ∧ B E u t ∧ va_F A st t
section Runs
variable {p : Program} {l : Launch} {e : Env} {R : Room} {s : State} {m : MethodId} {args : Array Value} {below : List Frame} {meth : Method} {c : Code} {H : Heap} {locs : List Loc} {cells slots : Nat}
variable {y : MethodName} {bytes cc : ByteArray} {maxL nL mc ms n index : Nat} {ret : Option FieldType} {ws : List Cond} {rm : Room} {Pc : Array Value → State → Prop} {Qc : Array Value → State → Outcome → State → Prop} {XC : String → State → State → Prop} {free : Addr → Prop} {Ts : List Cond} {own C : String} {b : Addr} {As rest : List Value} {g : JFrame}
theorem vx_callBack (cb : CallB R s args own index y bytes maxL ret ws rm mc ms n) (hM : vx_Met l y ws rm Pc Qc XC mc ms free) (hbl : FrameBlind Pc) : vx_Back l R p e below s args y 3 8 (PreOf R mc ms Pc) (PostOf Qc mc ms free) (vx_Post XC mc ms free) := by
  obtain ⟨hrc, hrs, hfr, hlo, hws, hcw, -, hini, -⟩ := cb
  exact vx_back (bytes := bytes) (maxL := maxL) (ret := ret) hM hbl hrc hrs hfr hlo hws hcw (fun a' U hW => word_at hW (Or.inl (by first | rfl | simp [Cond.onTables, Cond.keeps, Cond.steady])) hini)
theorem vx_runV (S : CallFix p m c cc nL s args Ts own) (hM : vx_Met l y ws rm Pc Qc XC mc ms free) (cw : CallW R s args own C index y bytes maxL ret ws rm mc ms n) (hp : PreV s H C b Pc As)
    (hg : g.method = m) (hn : As.length = n) (hsize : g.locals.size = nL) (hstack : g.stack = As.reverse ++ .ref b :: rest) (hW : 2 * g.monitorRoom + (rest.map fun v => v.category).sum ≤ 8) (hdg : decode cc g.pc = .ok (.invokevirtual index, 3)) (hf : cells + mc ≤ R.cells ∧ slots + ms ≤ R.slots) :
    vx_Run p l e R s m args below meth c H locs cells slots mc ms g rest (Qc (Value.ref b :: As).toArray) XC free := by
  have hK : vx_Back l R p e below s args y 3 8 (PreOf R mc ms Pc) (PostOf Qc mc ms free) (vx_Post XC mc ms free) := vx_callBack cw.1 hM hp.1
  obtain ⟨⟨-, -, -, -, -, -, hcode, -, hy, hlen, hl⟩, hin, hse⟩ := cw
  obtain ⟨hx, hb, hml, ho, -⟩ := S
  obtain ⟨-, ⟨cellB, hcB, hoB, hclB⟩, hPc⟩ := hp
  intro T hT X
  rcases vx_callV X hx (C := C) (bytes := bytes) (maxL := maxL) (ret := ret) ho hl hin hse hcode hy hK (by rw [hT]; exact hcB) hoB hclB hg (hsize.trans hml.symm) (argsL := As) (rest := rest) (fun sig h => hn.trans (hlen sig h)) hstack hW (by rw [hb]; exact hdg)
    (fun vm₁ hW₁ => ⟨hf.1, hf.2, hPc (T.setVm vm₁) hT hW₁⟩) with ⟨v, vm₁, ⟨U', l2, c2, s2⟩, hW₁, X', ⟨g', mk, t, L, e1, e2, hq, h1, hL, h2, h3⟩, st⟩ | ⟨q, vm₁, ⟨U', l2, c2, s2⟩, hW₁, X', ⟨g', mk, t, L, E, ce, e1, e2, hq, hce, hcv, hcl, h1, hL, h2, h3⟩, st⟩
  · dsimp only [Pt.U, Pt.locs, Pt.cells, Pt.slots] at X' e1 e2 h1 h2 h3 st
    subst h1; subst h2; subst h3
    exact Or.inl ⟨v, (T.setVm vm₁).calling g' mk (Value.ref b :: As).toArray, t, U', L, hT, X', hL, e1, e2, hq, st⟩
  · dsimp only [Pt.U, Pt.locs, Pt.cells, Pt.slots] at X' e1 e2 h1 h2 h3 st hcl
    subst h1; subst h2; subst h3
    exact Or.inr ⟨q, (T.setVm vm₁).calling g' mk (Value.ref b :: As).toArray, t, U', L, E, ce, hT, X', hL, e1, e2, hq, hce, hcv, vx_cls hW₁ hcl, st⟩
theorem vx_runS (S : CallFix p m c cc nL s args Ts own) (hM : vx_Met l y ws rm Pc Qc XC mc ms free) (cw : CallB R s args own index y bytes maxL ret ws rm mc ms n ∧ (Cond.static y).before args s = true) (hp : PreS s H Pc As)
    (hg : g.method = m) (hn : As.length = n) (hsize : g.locals.size = nL) (hstack : g.stack = As.reverse ++ rest) (hW : 2 * g.monitorRoom + (rest.map fun v => v.category).sum ≤ 8) (hdg : decode cc g.pc = .ok (.invokestatic index, 3)) (hf : cells + mc ≤ R.cells ∧ slots + ms ≤ R.slots) :
    vx_Run p l e R s m args below meth c H locs cells slots mc ms g rest (Qc As.toArray) XC free := by
  have hK : vx_Back l R p e below s args y 3 8 (PreOf R mc ms Pc) (PostOf Qc mc ms free) (vx_Post XC mc ms free) := vx_callBack cw.1 hM hp.1
  obtain ⟨⟨-, -, -, -, -, -, hcode, hini, hy, hlen, hl⟩, hstt⟩ := cw
  obtain ⟨hx, hb, hml, ho, -⟩ := S
  intro T hT X
  rcases vx_callS X hx (bytes := bytes) (maxL := maxL) (ret := ret) ho hl hstt hini hcode hy hK hg (hsize.trans hml.symm) (argsL := As) (rest := rest) (fun sig h => hn.trans (hlen sig h)) hstack hW (by rw [hb]; exact hdg)
    (fun vm₁ hW₁ => ⟨hf.1, hf.2, hp.2 (T.setVm vm₁) hT hW₁⟩) with ⟨v, vm₁, ⟨U', l2, c2, s2⟩, hW₁, X', ⟨g', mk, t, L, e1, e2, hq, h1, hL, h2, h3⟩, st⟩ | ⟨q, vm₁, ⟨U', l2, c2, s2⟩, hW₁, X', ⟨g', mk, t, L, E, ce, e1, e2, hq, hce, hcv, hcl, h1, hL, h2, h3⟩, st⟩
  · dsimp only [Pt.U, Pt.locs, Pt.cells, Pt.slots] at X' e1 e2 h1 h2 h3 st
    subst h1; subst h2; subst h3
    exact Or.inl ⟨v, (T.setVm vm₁).calling g' mk As.toArray, t, U', L, hT, X', hL, e1, e2, hq, st⟩
  · dsimp only [Pt.U, Pt.locs, Pt.cells, Pt.slots] at X' e1 e2 h1 h2 h3 st hcl
    subst h1; subst h2; subst h3
    exact Or.inr ⟨q, (T.setVm vm₁).calling g' mk As.toArray, t, U', L, E, ce, hT, X', hL, e1, e2, hq, hce, hcv, vx_cls hW₁ hcl, st⟩
end Runs
section Rows
variable {p : Program} {l : Launch} {e : Env} {R : Room} {s : State} {m : MethodId} {args : Array Value} {below : List Frame} {meth : Method} {c : Code} {H : Heap} {locs : List Loc} {cells slots : Nat} {Q : State → Prop}
variable {mc ms : Nat} {free : Addr → Prop} {A0 A1 : Nat → Prop} {H0 : Heap} {a : Array Value} {pc : Nat} {ls : Array Slot} {st0 rest : List Value}
theorem vx_keep {st₀ t T' : State} {L : List Loc} (h0 : st₀.heap = H) (e1 : T'.heap = t.heap) (hS : va_S A0 H0 H locs) (hA : ∀ q, q < H.size → A1 q → A0 q) (hf : ∀ q, free q → A0 q) (hL : ∀ q ∈ L, free q.base) (hF : va_F A1 st₀ t) :
    H.size ≤ T'.heap.size ∧ (∀ q : Nat, q < H.size → ¬ A1 q → T'.heap[q]? = H[q]?) ∧ va_S A0 H0 T'.heap (locs ++ L) := by
  obtain ⟨hz, hk⟩ := hF
  rw [h0] at hz hk
  exact ⟨by rw [e1]; exact hz, fun q h1 h2 => by rw [e1]; exact hk q h1 h2,
    ⟨Nat.le_trans hS.1 (by rw [e1]; exact hz), fun q h1 h2 => by rw [e1, hk q (Nat.lt_of_lt_of_le h1 hS.1) (fun z => h2 (hA q (Nat.lt_of_lt_of_le h1 hS.1) z))]; exact hS.2.1 q h1 h2, fun q hq => by
      rcases List.mem_append.mp hq with h | h
      · exact hS.2.2 q h
      · exact hf _ (hL q h)⟩⟩
theorem vx_calli {S SX : Type} {post : Int32 → S → Prop} {px : SX → Prop} {B : S → State → Prop} {BX : String → SX → State → Prop} {AX : Nat → Prop} (hr : vx_Run p l e R s m args below meth c H locs cells slots mc ms (F0 m pc ls st0) rest (va_Qi post B A1 a) (vx_X px BX AX) free) (hS : va_S A0 H0 H locs) (hA : ∀ q, q < H.size → A1 q → A0 q) (hf : ∀ q, free q → A0 q) (hAX : ∀ q, q < H.size → AX q → A0 q)
    (kx : ∀ (E : String) (ce : Cell) (q9 : Addr) (u : SX) (t : State) (H1 : Heap) (locs1 : List Loc), t.heap = H1 → s.vm.Alike t.vm → px u → BX E u t → H.size ≤ H1.size → (∀ q : Nat, q < H.size → ¬ AX q → H1[q]? = H[q]?) → va_S A0 H0 H1 locs1 → H1[q9]? = some ce → ce.vm = .none → s.vm.findClass E = some ce.cls → vx_W p l e R s m args below meth c H1 locs1 (cells + mc) (slots + ms) Q (F0 m pc ls rest) q9)
    (kk : ∀ (r : Int32) (u : S) (t : State) (H1 : Heap) (locs1 : List Loc), t.heap = H1 → s.vm.Alike t.vm → post r u → B u t → H.size ≤ H1.size → (∀ q : Nat, q < H.size → ¬ A1 q → H1[q]? = H[q]?) → va_S A0 H0 H1 locs1 → W p l e R s m args below meth c H1 locs1 (cells + mc) (slots + ms) Q (F0 m (pc + 3) ls (.int r :: rest))) : W p l e R s m args below meth c H locs cells slots Q (F0 m pc ls st0) := by
  intro T hT X
  rcases hr T hT X with ⟨v, st₀, t, T', L, h0, X', hL, e1, e2, ⟨⟨r, u, hv, hp, hb⟩, hF⟩, st⟩ | ⟨q, st₀, t, T', L, E, ce, h0, X', hL, e1, e2, ⟨u, hp, hb, hF⟩, hce, hcv, hcl, st⟩
  · cases hv
    obtain ⟨k1, k2, k3⟩ := vx_keep h0 e1 hS hA hf hL hF
    obtain ⟨t2, a1, b1⟩ := kk r u t T'.heap (locs ++ L) e1.symm (by rw [← e2]; exact X'.warmed.alike) hp hb k1 k2 k3 T' rfl X'
    exact ⟨t2, st t2 a1, b1⟩
  · obtain ⟨k1, k2, k3⟩ := vx_keep h0 e1 hS hAX hf hL hF
    obtain ⟨t2, a1, b1⟩ := kx E ce q u t T'.heap (locs ++ L) e1.symm (by rw [← e2]; exact X'.warmed.alike) hp hb k1 k2 k3 (by rw [e1]; exact hce) hcv hcl T' rfl X'
    exact ⟨t2, st.trans a1, b1⟩
theorem vx_calll {S SX : Type} {post : Int64 → S → Prop} {px : SX → Prop} {B : S → State → Prop} {BX : String → SX → State → Prop} {AX : Nat → Prop} (hr : vx_Run p l e R s m args below meth c H locs cells slots mc ms (F0 m pc ls st0) rest (va_Ql post B A1 a) (vx_X px BX AX) free) (hS : va_S A0 H0 H locs) (hA : ∀ q, q < H.size → A1 q → A0 q) (hf : ∀ q, free q → A0 q) (hAX : ∀ q, q < H.size → AX q → A0 q)
    (kx : ∀ (E : String) (ce : Cell) (q9 : Addr) (u : SX) (t : State) (H1 : Heap) (locs1 : List Loc), t.heap = H1 → s.vm.Alike t.vm → px u → BX E u t → H.size ≤ H1.size → (∀ q : Nat, q < H.size → ¬ AX q → H1[q]? = H[q]?) → va_S A0 H0 H1 locs1 → H1[q9]? = some ce → ce.vm = .none → s.vm.findClass E = some ce.cls → vx_W p l e R s m args below meth c H1 locs1 (cells + mc) (slots + ms) Q (F0 m pc ls rest) q9)
    (kk : ∀ (r : Int64) (u : S) (t : State) (H1 : Heap) (locs1 : List Loc), t.heap = H1 → s.vm.Alike t.vm → post r u → B u t → H.size ≤ H1.size → (∀ q : Nat, q < H.size → ¬ A1 q → H1[q]? = H[q]?) → va_S A0 H0 H1 locs1 → W p l e R s m args below meth c H1 locs1 (cells + mc) (slots + ms) Q (F0 m (pc + 3) ls (.long r :: rest))) : W p l e R s m args below meth c H locs cells slots Q (F0 m pc ls st0) := by
  intro T hT X
  rcases hr T hT X with ⟨v, st₀, t, T', L, h0, X', hL, e1, e2, ⟨⟨r, u, hv, hp, hb⟩, hF⟩, st⟩ | ⟨q, st₀, t, T', L, E, ce, h0, X', hL, e1, e2, ⟨u, hp, hb, hF⟩, hce, hcv, hcl, st⟩
  · cases hv
    obtain ⟨k1, k2, k3⟩ := vx_keep h0 e1 hS hA hf hL hF
    obtain ⟨t2, a1, b1⟩ := kk r u t T'.heap (locs ++ L) e1.symm (by rw [← e2]; exact X'.warmed.alike) hp hb k1 k2 k3 T' rfl X'
    exact ⟨t2, st t2 a1, b1⟩
  · obtain ⟨k1, k2, k3⟩ := vx_keep h0 e1 hS hAX hf hL hF
    obtain ⟨t2, a1, b1⟩ := kx E ce q u t T'.heap (locs ++ L) e1.symm (by rw [← e2]; exact X'.warmed.alike) hp hb k1 k2 k3 (by rw [e1]; exact hce) hcv hcl T' rfl X'
    exact ⟨t2, st.trans a1, b1⟩
theorem vx_callf {S SX : Type} {post : UInt32 → S → Prop} {px : SX → Prop} {B : S → State → Prop} {BX : String → SX → State → Prop} {AX : Nat → Prop} (hr : vx_Run p l e R s m args below meth c H locs cells slots mc ms (F0 m pc ls st0) rest (va_Qf post B A1 a) (vx_X px BX AX) free) (hS : va_S A0 H0 H locs) (hA : ∀ q, q < H.size → A1 q → A0 q) (hf : ∀ q, free q → A0 q) (hAX : ∀ q, q < H.size → AX q → A0 q)
    (kx : ∀ (E : String) (ce : Cell) (q9 : Addr) (u : SX) (t : State) (H1 : Heap) (locs1 : List Loc), t.heap = H1 → s.vm.Alike t.vm → px u → BX E u t → H.size ≤ H1.size → (∀ q : Nat, q < H.size → ¬ AX q → H1[q]? = H[q]?) → va_S A0 H0 H1 locs1 → H1[q9]? = some ce → ce.vm = .none → s.vm.findClass E = some ce.cls → vx_W p l e R s m args below meth c H1 locs1 (cells + mc) (slots + ms) Q (F0 m pc ls rest) q9)
    (kk : ∀ (r : UInt32) (u : S) (t : State) (H1 : Heap) (locs1 : List Loc), t.heap = H1 → s.vm.Alike t.vm → post r u → B u t → H.size ≤ H1.size → (∀ q : Nat, q < H.size → ¬ A1 q → H1[q]? = H[q]?) → va_S A0 H0 H1 locs1 → W p l e R s m args below meth c H1 locs1 (cells + mc) (slots + ms) Q (F0 m (pc + 3) ls (.float r :: rest))) : W p l e R s m args below meth c H locs cells slots Q (F0 m pc ls st0) := by
  intro T hT X
  rcases hr T hT X with ⟨v, st₀, t, T', L, h0, X', hL, e1, e2, ⟨⟨r, u, hv, hp, hb⟩, hF⟩, st⟩ | ⟨q, st₀, t, T', L, E, ce, h0, X', hL, e1, e2, ⟨u, hp, hb, hF⟩, hce, hcv, hcl, st⟩
  · cases hv
    obtain ⟨k1, k2, k3⟩ := vx_keep h0 e1 hS hA hf hL hF
    obtain ⟨t2, a1, b1⟩ := kk r u t T'.heap (locs ++ L) e1.symm (by rw [← e2]; exact X'.warmed.alike) hp hb k1 k2 k3 T' rfl X'
    exact ⟨t2, st t2 a1, b1⟩
  · obtain ⟨k1, k2, k3⟩ := vx_keep h0 e1 hS hAX hf hL hF
    obtain ⟨t2, a1, b1⟩ := kx E ce q u t T'.heap (locs ++ L) e1.symm (by rw [← e2]; exact X'.warmed.alike) hp hb k1 k2 k3 (by rw [e1]; exact hce) hcv hcl T' rfl X'
    exact ⟨t2, st.trans a1, b1⟩
theorem vx_calld {S SX : Type} {post : UInt64 → S → Prop} {px : SX → Prop} {B : S → State → Prop} {BX : String → SX → State → Prop} {AX : Nat → Prop} (hr : vx_Run p l e R s m args below meth c H locs cells slots mc ms (F0 m pc ls st0) rest (va_Qd post B A1 a) (vx_X px BX AX) free) (hS : va_S A0 H0 H locs) (hA : ∀ q, q < H.size → A1 q → A0 q) (hf : ∀ q, free q → A0 q) (hAX : ∀ q, q < H.size → AX q → A0 q)
    (kx : ∀ (E : String) (ce : Cell) (q9 : Addr) (u : SX) (t : State) (H1 : Heap) (locs1 : List Loc), t.heap = H1 → s.vm.Alike t.vm → px u → BX E u t → H.size ≤ H1.size → (∀ q : Nat, q < H.size → ¬ AX q → H1[q]? = H[q]?) → va_S A0 H0 H1 locs1 → H1[q9]? = some ce → ce.vm = .none → s.vm.findClass E = some ce.cls → vx_W p l e R s m args below meth c H1 locs1 (cells + mc) (slots + ms) Q (F0 m pc ls rest) q9)
    (kk : ∀ (r : UInt64) (u : S) (t : State) (H1 : Heap) (locs1 : List Loc), t.heap = H1 → s.vm.Alike t.vm → post r u → B u t → H.size ≤ H1.size → (∀ q : Nat, q < H.size → ¬ A1 q → H1[q]? = H[q]?) → va_S A0 H0 H1 locs1 → W p l e R s m args below meth c H1 locs1 (cells + mc) (slots + ms) Q (F0 m (pc + 3) ls (.double r :: rest))) : W p l e R s m args below meth c H locs cells slots Q (F0 m pc ls st0) := by
  intro T hT X
  rcases hr T hT X with ⟨v, st₀, t, T', L, h0, X', hL, e1, e2, ⟨⟨r, u, hv, hp, hb⟩, hF⟩, st⟩ | ⟨q, st₀, t, T', L, E, ce, h0, X', hL, e1, e2, ⟨u, hp, hb, hF⟩, hce, hcv, hcl, st⟩
  · cases hv
    obtain ⟨k1, k2, k3⟩ := vx_keep h0 e1 hS hA hf hL hF
    obtain ⟨t2, a1, b1⟩ := kk r u t T'.heap (locs ++ L) e1.symm (by rw [← e2]; exact X'.warmed.alike) hp hb k1 k2 k3 T' rfl X'
    exact ⟨t2, st t2 a1, b1⟩
  · obtain ⟨k1, k2, k3⟩ := vx_keep h0 e1 hS hAX hf hL hF
    obtain ⟨t2, a1, b1⟩ := kx E ce q u t T'.heap (locs ++ L) e1.symm (by rw [← e2]; exact X'.warmed.alike) hp hb k1 k2 k3 (by rw [e1]; exact hce) hcv hcl T' rfl X'
    exact ⟨t2, st.trans a1, b1⟩
theorem vx_callv {S SX : Type} {post : S → Prop} {px : SX → Prop} {B : S → State → Prop} {BX : String → SX → State → Prop} {AX : Nat → Prop} (hr : vx_Run p l e R s m args below meth c H locs cells slots mc ms (F0 m pc ls st0) rest (va_Qv post B A1 a) (vx_X px BX AX) free) (hS : va_S A0 H0 H locs) (hA : ∀ q, q < H.size → A1 q → A0 q) (hf : ∀ q, free q → A0 q) (hAX : ∀ q, q < H.size → AX q → A0 q)
    (kx : ∀ (E : String) (ce : Cell) (q9 : Addr) (u : SX) (t : State) (H1 : Heap) (locs1 : List Loc), t.heap = H1 → s.vm.Alike t.vm → px u → BX E u t → H.size ≤ H1.size → (∀ q : Nat, q < H.size → ¬ AX q → H1[q]? = H[q]?) → va_S A0 H0 H1 locs1 → H1[q9]? = some ce → ce.vm = .none → s.vm.findClass E = some ce.cls → vx_W p l e R s m args below meth c H1 locs1 (cells + mc) (slots + ms) Q (F0 m pc ls rest) q9)
    (kk : ∀ (u : S) (t : State) (H1 : Heap) (locs1 : List Loc), t.heap = H1 → s.vm.Alike t.vm → post u → B u t → H.size ≤ H1.size → (∀ q : Nat, q < H.size → ¬ A1 q → H1[q]? = H[q]?) → va_S A0 H0 H1 locs1 → W p l e R s m args below meth c H1 locs1 (cells + mc) (slots + ms) Q (F0 m (pc + 3) ls (rest))) : W p l e R s m args below meth c H locs cells slots Q (F0 m pc ls st0) := by
  intro T hT X
  rcases hr T hT X with ⟨v, st₀, t, T', L, h0, X', hL, e1, e2, ⟨⟨u, hv, hp, hb⟩, hF⟩, st⟩ | ⟨q, st₀, t, T', L, E, ce, h0, X', hL, e1, e2, ⟨u, hp, hb, hF⟩, hce, hcv, hcl, st⟩
  · cases hv
    obtain ⟨k1, k2, k3⟩ := vx_keep h0 e1 hS hA hf hL hF
    obtain ⟨t2, a1, b1⟩ := kk u t T'.heap (locs ++ L) e1.symm (by rw [← e2]; exact X'.warmed.alike) hp hb k1 k2 k3 T' rfl X'
    exact ⟨t2, st t2 a1, b1⟩
  · obtain ⟨k1, k2, k3⟩ := vx_keep h0 e1 hS hAX hf hL hF
    obtain ⟨t2, a1, b1⟩ := kx E ce q u t T'.heap (locs ++ L) e1.symm (by rw [← e2]; exact X'.warmed.alike) hp hb k1 k2 k3 (by rw [e1]; exact hce) hcv hcl T' rfl X'
    exact ⟨t2, st.trans a1, b1⟩
/-- caught by the row x of this method's table; the rows ahead don't take it -/
theorem vx_catch {own name : String} {E : String} {ce : Cell} {q : Addr} (hown : s.vm.findClass own = some m.cls) (pre : List ExceptionTableEntry) (x : ExceptionTableEntry) (suf : List ExceptionTableEntry) (hsplit : c.exceptionTable.toList = pre ++ x :: suf)
    (hpass : ∀ z ∈ pre, covers z pc = false ∨ (z.catchType ≠ 0 ∧ ∃ nm : String, (Cond.classLink own z.catchType nm).before args s = true ∧ va_Nc E nm s)) (hx : covers x pc = true) (h0 : x.catchType ≠ 0)
    (hlink : (Cond.classLink own x.catchType name).before args s = true) (hcast : (Cond.castable E name).before args s = true) (hcell : H[q]? = some ce) (hv : ce.vm = .none) (hcl : s.vm.findClass E = some ce.cls)
    (kk : W p l e R s m args below meth c H locs cells slots Q (F0 m x.handlerPc ls [.ref q])) : vx_W p l e R s m args below meth c H locs cells slots Q (F0 m pc ls rest) q := by
  intro T hT X
  have hpl : e.platform.magicAccessors = ({} : Platform).magicAccessors := by rw [X.admits.platform]
  obtain ⟨c3, c4, hc3, hc4, hasg⟩ := Cond.castable_spec hcast
  cases Option.some.inj (hc3.symm.trans hcl)
  obtain ⟨c5, hc5, hcl5⟩ := Cond.classLink_spec hown hlink e.platform hpl
  cases Option.some.inj (hc4.symm.trans hc5)
  obtain ⟨vm', X', st⟩ := X.thenCaughtThrough q (g := F0 m pc ls rest) rfl (Steps.refl _) (by rw [hT]; exact hcell) (by rw [hv]; rfl) (by obtain ⟨k9, h9, -⟩ := Vm.findClass_spec hcl; exact ⟨k9, h9⟩) pre x suf hsplit
    (fun z hz => by
      rcases hpass z hz with h | ⟨hz0, nm, hl1, hn1⟩
      · exact Or.inl h
      · obtain ⟨c6, hc6, hcl6⟩ := Cond.classLink_spec hown hl1 e.platform hpl
        obtain ⟨a8, b8, h1, h2, h3⟩ := hn1
        cases Option.some.inj (h1.symm.trans hcl)
        cases Option.some.inj (h2.symm.trans hc6)
        exact Or.inr ⟨hz0, _, hcl6, h3⟩) hx (Or.inr ⟨h0, c4, hcl5, hasg⟩)
  obtain ⟨t, a1, b1⟩ := kk (T.setVm vm') hT X'
  exact ⟨t, st.trans a1, b1⟩
end Rows
section Ends
variable {p : Program} {l : Launch} {e : Env} {R : Room} {s : State} {m : MethodId} {args : Array Value} {below : List Frame} {meth : Method} {c : Code} {H : Heap} {locs : List Loc} {cells slots : Nat} {Q : State → Prop}
variable {mc ms : Nat} {free : Addr → Prop} {A0 A1 : Nat → Prop} {H0 : Heap} {a : Array Value} {ls : Array Slot} {st0 rest : List Value}
variable {Qc : Array Value → State → Outcome → State → Prop} {XC : String → State → State → Prop}
/-- what a body that may throw owes at its end -/
def vx_MQ (below : List Frame) (Qc : Array Value → State → Outcome → State → Prop) (XC : String → State → State → Prop) (a : Array Value) (s : State) (mc ms : Nat) (free : Addr → Prop) : State → Prop := fun t =>
  ∃ o, t.status = .running ∧ Ended t below o ∧ vx_Q Qc XC mc ms free a s o t
theorem vx_ret {g : JFrame} {mc ms : Nat} (k : W p l e R s m args below meth c H locs cells slots (MQ below Qc args s mc ms free) g) : W p l e R s m args below meth c H locs cells slots (vx_MQ below Qc XC args s mc ms free) g := by
  intro T hT X
  obtain ⟨t, a1, o, b1, b2, b3, b4⟩ := k T hT X
  exact ⟨t, a1, o, b1, b2, Or.inl ⟨b3, b4⟩⟩
/-- not caught here: it goes on to the caller -/
theorem vx_widen {g : JFrame} {q : Addr} {k n : Nat} (h1 : cells ≤ k) (h2 : slots ≤ n) (kk : vx_W p l e R s m args below meth c H locs k n Q g q) : vx_W p l e R s m args below meth c H locs cells slots Q g q := fun T hT X => kk T hT (stand_widen X h1 h2)
theorem vx_out {pc : Nat} {E : String} {ce : Cell} {q : Addr} {mc ms : Nat} (hout : ∀ x ∈ c.exceptionTable.toList, covers x pc = false) (hlocks : meth.locks = false) (hcell : H[q]? = some ce) (hv : ce.vm = .none) (hcl : s.vm.findClass E = some ce.cls)
    (hx : ∀ t : State, t.heap = H → s.vm.Alike t.vm → XC E s t) (hf : ∀ z ∈ locs, free z.base) (hc : cells ≤ mc) (hs : slots ≤ ms) :
    vx_W p l e R s m args below meth c H locs cells slots (vx_MQ below Qc XC args s mc ms free) (F0 m pc ls rest) q := by
  intro T hT X
  obtain ⟨st1, hrun, hend, hW, hsm⟩ := X.leaveThrown q (g := F0 m pc ls rest) rfl rfl rfl hout hlocks
  have hcell9 : (T.setFrames (.throwing q :: below)).heap[q]? = some ce := by
    show T.heap[q]? = some ce
    rw [hT]; exact hcell
  exact ⟨_, st1, .threw q, hrun, hend, Or.inr ⟨q, rfl, E, ce, locs, hx _ hT hW.alike, hcell9, hv, hcl, hW, hsm.mono hc hs, hf⟩⟩
theorem vx_frame {U : State} {k n : Nat} (h : s.sameButNew ({ U with vm := s.vm } : State) locs k n) : s.heap.size ≤ U.heap.size ∧ ∀ q : Nat, q < s.heap.size → (∀ z ∈ locs, z.base ≠ q) → U.heap[q]? = s.heap[q]? := by
  obtain ⟨-, h2, -, -, -, h6⟩ := h
  refine ⟨h2, fun q hq hz => ?_⟩
  obtain ⟨c9, e1, e2, e3, e4⟩ := h6 q _ (Array.getElem?_eq_getElem hq)
  have hs : c9.slots = (s.heap[q]).slots := Array.ext_getElem? fun i => e4 i fun hm => hz _ hm rfl
  have h9 : c9 = s.heap[q] := by
    rw [hs] at e2
    exact e2
  have e5 : U.heap[q]? = some c9 := e1
  rw [e5, h9, Array.getElem?_eq_getElem hq]
/-- the words of a throw but the four that speak of the heap -/
def vx_no (w : Cond) : Bool := decide (w ≠ .isRef (.static Bundle.tN "UNASSIGNED_STACK" Bundle.steD)) && decide (w ≠ .isRef (.static Bundle.tN "SUPPRESSED_SENTINEL" Bundle.listD)) && decide (w ≠ .laysStatic Bundle.tN "UNASSIGNED_STACK" Bundle.steD) && decide (w ≠ .laysStatic Bundle.tN "SUPPRESSED_SENTINEL" Bundle.listD)
def vx_at0 (own : String) (ic : Nat) (X : String) (names : List String) : List Cond := (Bundle.ownAtoms0 own ic X names).filter vx_no
def vx_atS (own : String) (ic : Nat) (X : String) (names : List String) : List Cond := (Bundle.ownAtoms own ic X names).filter vx_no
/-- a word that the tables alone decide, or a good one -/
def vx_ot (w : Cond) : Bool := w.onTables || goodWord w
theorem vx_ot_at {args a' : Array Value} {s U : State} {w : Cond} (hW : s.WarmedH U.vm) (hvm : s.vm = U.vm) (hg : vx_ot w = true) (h : w.before args s = true) : w.before a' U = true := by
  simp only [vx_ot, Bool.or_eq_true] at hg
  rcases hg with hg | hg
  · exact va_tabs hg hvm h
  · exact word_at hW (good_of_word hg) h
/-- a list's words: the good ones out of the method's own list, the others by premises of their own -/
theorem vx_hat {args : Array Value} {s : State} {L B : List Cond} (h1 : ∀ w ∈ L.filter goodWord, w.before args s = true) (h2 : ∀ w ∈ L.filter (fun w => !goodWord w), w ∈ B) (h3 : ∀ w ∈ B, w.before args s = true) : ∀ w ∈ L, w.before args s = true := by
  intro w hw
  by_cases g : goodWord w = true
  · exact h1 w (List.mem_filter.mpr ⟨hw, g⟩)
  · refine h3 w (h2 w (List.mem_filter.mpr ⟨hw, ?_⟩))
    show (!goodWord w) = true
    cases hgw : goodWord w
    · rfl
    · exact absurd hgw g
theorem vx_c {args : Array Value} {s : State} {w : Cond} {B : List Cond} (h : w.before args s = true) (t : ∀ w ∈ B, w.before args s = true) : ∀ w' ∈ w :: B, w'.before args s = true := fun w' h' => (List.mem_cons.mp h').elim (fun e => by rw [e]; exact h) (t w')
theorem vx_n {args : Array Value} {s : State} : ∀ w ∈ ([] : List Cond), w.before args s = true := fun _ h => nomatch h
theorem vx_own {args : Array Value} {s : State} {L : List Cond} (h1 : ∀ w ∈ L.filter vx_no, w.before args s = true)
    (hU : (Cond.isRef (.static Bundle.tN "UNASSIGNED_STACK" Bundle.steD)).before args s = true) (hN : (Cond.isRef (.static Bundle.tN "SUPPRESSED_SENTINEL" Bundle.listD)).before args s = true)
    (lU : (Cond.laysStatic Bundle.tN "UNASSIGNED_STACK" Bundle.steD).before args s = true) (lN : (Cond.laysStatic Bundle.tN "SUPPRESSED_SENTINEL" Bundle.listD).before args s = true) : ∀ w ∈ L, w.before args s = true := by
  intro w hw
  by_cases e1 : w = .isRef (.static Bundle.tN "UNASSIGNED_STACK" Bundle.steD)
  · rw [e1]; exact hU
  · by_cases e2 : w = .isRef (.static Bundle.tN "SUPPRESSED_SENTINEL" Bundle.listD)
    · rw [e2]; exact hN
    · by_cases e3 : w = .laysStatic Bundle.tN "UNASSIGNED_STACK" Bundle.steD
      · rw [e3]; exact lU
      · by_cases e4 : w = .laysStatic Bundle.tN "SUPPRESSED_SENTINEL" Bundle.listD
        · rw [e4]; exact lN
        · exact h1 w (List.mem_filter.mpr ⟨hw, by unfold vx_no; rw [decide_eq_true e1, decide_eq_true e2, decide_eq_true e3, decide_eq_true e4]; rfl⟩)
/-- where a static field lies, its class's statics cell in H -/
def vx_L (C n d : String) (A : Nat → Prop) (U : State) (H : Heap) : Prop := ∃ (c : ClassId) (k : Class) (i : Nat) (f : Field) (a : Nat) (cell : Cell), U.vm.findClass C = some c ∧ U.fieldFound? C n d = some (c, k, i, f) ∧ f.isStatic = true ∧ k.statics = some a ∧ H[a]? = some cell ∧ cell.vm.isStatics = true ∧ cell.cls = c ∧ f.slot < cell.slots.size ∧ k.staticTypes[f.slot]? = some f.type ∧ ¬ A a
theorem vx_L.moved {C n d : String} {A : Nat → Prop} {u U : State} {H : Heap} (hvm : u.vm.Alike U.vm) (h : vx_L C n d A u H) : vx_L C n d A U H := by
  obtain ⟨c, k, i, f, a, cell, h1, h2, h3, h4, h5, h6, h7, h8, h9, h10⟩ := h
  obtain ⟨k', hi', he⟩ := State.fieldFound?_setVm hvm h2
  exact ⟨c, k', i, f, a, cell, by rw [hvm.findClass]; exact h1, hi', h3, by rw [he]; exact h4, h5, h6, h7, h8, by rw [he]; exact h9, h10⟩
theorem vx_L.kept {C n d : String} {A : Nat → Prop} {U : State} {H H1 : Heap} (h : vx_L C n d A U H) (hq : ∀ a : Nat, a < H.size → ¬ A a → H1[a]? = H[a]?) : vx_L C n d A U H1 := by
  obtain ⟨c, k, i, f, a, cell, h1, h2, h3, h4, h5, h6, h7, h8, h9, h10⟩ := h
  exact ⟨c, k, i, f, a, cell, h1, h2, h3, h4, by rw [hq a (Array.getElem?_eq_some_iff.mp h5).1 h10]; exact h5, h6, h7, h8, h9, h10⟩
theorem vx_L.narrow {C n d : String} {A B : Nat → Prop} {U : State} {H : Heap} (h : vx_L C n d A U H) (hAB : ∀ q, B q → A q) : vx_L C n d B U H := by
  obtain ⟨c, k, i, f, a, cell, h1, h2, h3, h4, h5, h6, h7, h8, h9, h10⟩ := h
  exact ⟨c, k, i, f, a, cell, h1, h2, h3, h4, h5, h6, h7, h8, h9, fun z => h10 (hAB _ z)⟩
theorem vx_L.word {C n d : String} {A : Nat → Prop} {s : State} {args : Array Value} (h : vx_L C n d A s s.heap) : (Cond.laysStatic C n d).before args s = true := by
  obtain ⟨c, k, i, f, a, cell, h1, h2, h3, h4, h5, h6, h7, h8, h9, -⟩ := h
  show (Cond.laysStatic C n d).holds args s none s [] = true
  exact Cond.laysStatic_of h1 h2 h3 h4 h5 h6 h7 h8 h9
/-- .. and what it holds: null or some reference -/
def vx_Zq (C n d : String) (A : Nat → Prop) (U : State) (H : Heap) : Prop := va_Zq C n d A U H ∧ vx_L C n d A U H
theorem vx_Zq.moved {C n d : String} {A : Nat → Prop} {u U : State} {H : Heap} (hvm : u.vm.Alike U.vm) (h : vx_Zq C n d A u H) : vx_Zq C n d A U H := ⟨va_Zq.moved hvm h.1, vx_L.moved hvm h.2⟩
theorem vx_Zq.kept {C n d : String} {A : Nat → Prop} {U : State} {H H1 : Heap} (h : vx_Zq C n d A U H) (hq : ∀ a : Nat, a < H.size → ¬ A a → H1[a]? = H[a]?) : vx_Zq C n d A U H1 := ⟨va_Zq.kept h.1 hq, vx_L.kept h.2 hq⟩
theorem vx_Zq.narrow {C n d : String} {A B : Nat → Prop} {U : State} {H : Heap} (h : vx_Zq C n d A U H) (hAB : ∀ q, B q → A q) : vx_Zq C n d B U H := ⟨va_Zq.narrow h.1 hAB, vx_L.narrow h.2 hAB⟩
theorem vx_Zqof {args : Array Value} {s : State} {C n d : String} {A : Nat → Prop} (hl : (Cond.laysStatic C n d).before args s = true) (hini : (Cond.initialized C).before args s = true) (h : (Cond.isRef (.static C n d)).before args s = true) (hA : ∀ a : Nat, a < s.heap.size → ¬ A a) : vx_Zq C n d A s s.heap := by
  refine ⟨va_Zqof hl hini h hA, ?_⟩
  obtain ⟨c, k, i, f, a, cell, h1, h2, h3, h4, h5, h6, h7, h8, h9⟩ := Cond.laysStatic_spec hl
  exact ⟨c, k, i, f, a, cell, h1, h2, h3, h4, h5, h6, h7, h8, h9, hA a (Array.getElem?_eq_some_iff.mp h5).1⟩
theorem vx_isRef {C n d : String} {v : Value} {A : Nat → Prop} {s : State} {args : Array Value} (h : va_Z C n d v A s s.heap) (hv : v.isRef = true) : (Cond.isRef (.static C n d)).before args s = true := by
  obtain ⟨cf, kf, fi, f, a, cell, h1, h2, h3, h4, h5, h6, h7, -⟩ := h
  have he : (Term.static C n d).eval args s none [] s = some v := by
    simp [Term.eval, State.fieldNamed?, h1, h2, h4, h5, h6, h7]
  simp only [Cond.before, Cond.holds, Cond.value, he]
  cases v <;> simp_all [Value.isRef]
theorem vx_isRefq {C n d : String} {A : Nat → Prop} {s : State} {args : Array Value} (h : va_Zq C n d A s s.heap) : (Cond.isRef (.static C n d)).before args s = true := by
  rcases h with h | ⟨t, h⟩
  · exact vx_isRef h rfl
  · exact vx_isRef h rfl
/-- the same frame, seen from here: as if the method were called anew in this heap -/
theorem vx_rebase {T : State} (X : Stand p l e R s m args below meth c T locs cells slots) {R' : Room} (hf : R'.frames ≤ R.frames) (hl : R'.locals ≤ R.locals) (hc : cells + R'.cells ≤ R.cells) (hs : slots + R'.slots ≤ R.slots) :
    Stand p l e R' ((T.setVm s.vm).setFrames (.invoking m args :: below)) m args below meth c T [] 0 0 := by
  have htop : (T.setVm s.vm).topJava?.isSome := X.here.top
  have hF : ((T.setVm s.vm).setFrames (.invoking m args :: below)).frames = .invoking m args :: below := State.frames_setFrames _ (State.cur_lt_of_top htop)
  obtain ⟨g₀, hg0⟩ := Option.isSome_iff_exists.mp htop
  obtain ⟨r, hr⟩ := State.topJava?_eq_some.mp hg0
  have hl9 : e.platform.stackLimits (T.setVm s.vm).me = e.platform.stackLimits s.me := X.limits
  have hb9 : (T.setVm s.vm).me.stackBytes = s.me.stackBytes := X.bytes
  refine ⟨X.admits, X.cas, X.clock, hF, ?_, X.hears, X.method, X.code, X.here, X.tail, X.warmed, ?_, ?_, ?_⟩
  · have h := X.room
    have hU : ((T.setVm s.vm).setFrames (.invoking m args :: below)).localsInUse = s.localsInUse := by
      rw [State.localsInUse_invoking hF (meth := meth) (c := c) X.method X.code, State.localsInUse_invoking X.frames X.method X.code]
    simp only [State.hasRoom, Bool.and_eq_true, decide_eq_true_eq] at h ⊢
    obtain ⟨⟨⟨⟨h1, h2, h3, h4, h5, h6⟩, h7⟩, h8⟩, h9⟩ := h
    rw [X.frames, List.length_cons] at h2 h3
    have q1 := X.heapSize
    have q2 := X.used
    simp only [hF, hU, List.length_cons, State.stackLimits_setFrames, State.stackBytes_setFrames, hl9, hb9]
    refine ⟨⟨⟨⟨by omega, by omega, by omega, by omega, by omega, h6⟩, ?_⟩, ?_⟩, X.book⟩
    · show T.heap.size + R'.cells ≤ e.platform.maxCells
      omega
    · show T.slotsUsed + R'.slots ≤ e.platform.maxSlots
      omega
  · rw [State.stackLimits_setFrames]; rfl
  · rw [State.stackBytes_setFrames]; rfl
  · refine ⟨?_, Nat.le_refl _, Nat.le_refl _, ?_, ?_, fun a c9 h9 => ⟨c9, h9, rfl, rfl, fun _ _ => rfl⟩⟩
    · obtain ⟨t, ht, -⟩ := State.frames_cons hr
      show T.setVm s.vm = { ((T.setVm s.vm).setFrames (.invoking m args :: below)).setFrames (T.setVm s.vm).frames with heap := T.heap, slotsUsed := T.slotsUsed }
      rw [State.setFrames_setFrames, State.setFrames_self ht]
      rfl
    · show T.slotsUsed = T.slotsUsed + ((T.heap.toList.drop T.heap.size).map (·.slots.size)).sum
      rw [List.drop_eq_nil_of_le (Nat.le_of_eq Array.length_toList)]
      rfl
    · show ((T.heap.toList.drop T.heap.size).map (·.slots.size)).sum ≤ 0
      rw [List.drop_eq_nil_of_le (Nat.le_of_eq Array.length_toList)]
      exact Nat.le_refl _
/-- 'throw new E()': new; dup; invokespecial; athrow -/
theorem vx_throw0 {cc : ByteArray} {pc : Nat} (hexec : p.tables.exec = Jvm.exec) (hb : c.code = cc) (hl : l.stackTraces = false) {own cls : String} {names : List String} {ik ic mc ms : Nat} {A : Nat → Prop}
    (hown : s.vm.findClass own = some m.cls) (hcls : Bundle.fit cls = true) (hnames : ∀ n ∈ names, Bundle.fit n = true)
    (hk : (Cond.classLink own ik cls).before args s = true) (hini : (Cond.initialized cls).before args s = true) (hat : ∀ w ∈ vx_at0 own ic cls names, w.before args s = true)
    (hgood : ∀ w ∈ Cond.classLink own ik cls :: Cond.initialized cls :: vx_at0 own ic cls names, vx_ot w = true)
    (hU : vx_Zq Bundle.tN "UNASSIGNED_STACK" Bundle.steD A s s.heap) (hN : vx_Zq Bundle.tN "SUPPRESSED_SENTINEL" Bundle.listD A s s.heap) (hS : va_S A s.heap H locs) (hsize : ls.size = c.maxLocals)
    (d0 : decode cc pc = .ok (.new ik, 3)) (d3 : decode cc (pc + 3) = .ok (.dup, 1)) (d4 : decode cc (pc + 4) = .ok (.invokespecial ic, 3)) (d7 : decode cc (pc + 7) = .ok (.athrow, 1))
    (hout : ∀ x ∈ c.exceptionTable.toList, covers x (pc + 7) = false)
    (hRframes : names.length + 3 < R.frames) (hRlocals : (rest.map fun v => v.category).sum + (13 * (names.length + 1) + 42) ≤ R.locals) (hRcells : cells + 1 ≤ R.cells) (hRslots : slots + 6 ≤ R.slots) (hlocks : meth.locks = false)
    (hx : ∀ t : State, s.vm.Alike t.vm → H.size ≤ t.heap.size → (∀ q : Nat, q < H.size → t.heap[q]? = H[q]?) → XC cls s t)
    (hf : ∀ z ∈ locs, free z.base) (hc : cells + 1 ≤ mc) (hs : slots + 6 ≤ ms) :
    W p l e R s m args below meth c H locs cells slots (vx_MQ below Qc XC args s mc ms free) (F0 m pc ls rest) := by
  intro T hT X
  have htr : e.platform.stackTraces = false := (show e.platform.stackTraces = l.stackTraces by rw [X.admits.platform]).trans hl
  have Y := vx_rebase X (R' := { frames := R.frames, locals := R.locals, cells := 1, slots := 6 }) (Nat.le_refl _) (Nat.le_refl _) hRcells hRslots
  obtain ⟨s', hA⟩ : ∃ z, z = (T.setVm s.vm).setFrames (.invoking m args :: below) := ⟨_, rfl⟩
  rw [← hA] at Y
  have hvm : s'.vm = s.vm := by rw [hA]; rfl
  have hhp : s'.heap = H := by rw [hA]; exact hT
  have hW0 : s.WarmedH s'.vm := by rw [hvm]; exact State.WarmedH.refl s
  have hat' : ∀ w ∈ vx_at0 own ic cls names, w.before args s' = true := fun w hw => vx_ot_at hW0 hvm.symm (hgood w (List.mem_cons_of_mem _ (List.mem_cons_of_mem _ hw))) (hat w hw)
  have hk' : (Cond.classLink own ik cls).before args s' = true := vx_ot_at hW0 hvm.symm (hgood _ List.mem_cons_self) hk
  have hini' : (Cond.initialized cls).before args s' = true := vx_ot_at hW0 hvm.symm (hgood _ (List.mem_cons_of_mem _ List.mem_cons_self)) hini
  have hU' : vx_Zq Bundle.tN "UNASSIGNED_STACK" Bundle.steD A s' s'.heap := by rw [hhp]; exact vx_Zq.moved hW0.alike (hU.kept hS.2.1)
  have hN' : vx_Zq Bundle.tN "SUPPRESSED_SENTINEL" Bundle.listD A s' s'.heap := by rw [hhp]; exact vx_Zq.moved hW0.alike (hN.kept hS.2.1)
  have h : ∀ w ∈ Bundle.ownAtoms0 own ic cls names, w.before args s' = true := vx_own hat' (vx_isRefq hU'.1) (vx_isRefq hN'.1) hU'.2.word hN'.2.word
  have hown' : s'.vm.findClass own = some m.cls := by rw [hvm]; exact hown
  have hins : (Cond.instantiable cls 6).before args s' = true := h _ (by simp [Bundle.ownAtoms0])
  obtain ⟨vm₁, cX, kX, hfX, hkX, -, -, X₁, st1⟩ := Y.newCold hexec (own := own) (C := cls) (index := ik) (n := 6) hown' hk' hins hini'
    (g := F0 m pc ls rest) rfl (by rw [hb]; exact d0) (Nat.le_refl _) (Nat.le_refl _)
  generalize hT1 : (T.setVm vm₁).pushCell { cls := cX, slots := kX.instanceTypes.map defaultValue, vm := .none } = T1 at X₁ st1
  have hcat : (Value.ref T.heap.size).category = 1 := rfl
  have hcellA : T1.heap[T.heap.size]? = some (freshCell cX kX) := by rw [← hT1]; exact State.heap_pushCell_size _ _
  have d3' : decode c.code (pc + 3) = .ok (.dup, 1) := by rw [hb]; exact d3
  obtain ⟨U, hsteps, hrun, hend, hW, hsame, ce, hce, hO⟩ := X₁.ctorThrow0 hexec htr (own := own) (cls := cls) (names := names) (ic := ic) hown' hcls hnames h (fun x hx => nomatch hx) hfX hkX hcellA (by rw [hhp, hT]; exact Nat.le_refl _)
    (g := { method := m, pc := pc + 4, locals := ls, stack := .ref T.heap.size :: .ref T.heap.size :: rest, locked := none }) rfl hsize rfl rfl (rest := rest) rfl
    (by rw [hb]; exact d4) (by rw [hb]; exact d7) hout hRframes (by simp only [List.map_cons, List.sum_cons, hcat]; omega) hlocks
  obtain ⟨f1, f2⟩ := vx_frame hsame
  rw [hhp] at f1 f2
  have hWs : s.WarmedH U.vm := State.WarmedH.trans hW0 hW
  have hcl : s.vm.findClass cls = some ce.cls := by
    have h9 := hO.cls
    rw [hvm] at h9
    exact h9
  have hall : s.sameButNew ({ U with vm := s.vm } : State) locs mc ms := by
    subst hA
    obtain ⟨e1, e2⟩ := hsame
    rw [State.setFrames_setFrames] at e1
    have h2 : (T.setVm s.vm).sameButNew ({ U with vm := s.vm } : State) [] (0 + 1) (0 + 6) := ⟨e1, e2⟩
    have h3 := X.same.trans h2
    rw [List.append_nil] at h3
    exact h3.mono hc hs
  refine ⟨U, ?_, .threw T.heap.size, hrun, hend, Or.inr ⟨T.heap.size, rfl, cls, ce, locs, hx U hWs.alike f1 (fun q hq => f2 q hq (fun z hz => nomatch hz)), hce, hO.vm, hcl, hWs, hall, hf⟩⟩
  refine st1 _ ?_
  show Steps p.tables e below (T1.setTop { method := m, pc := pc + 3, locals := ls, stack := .ref T.heap.size :: rest, locked := none }) _
  jvm_step X₁.here [X₁.here.top, hexec, d3', Value.category]
  exact hsteps
/-- 'throw new E("text")': new; dup; ldc; invokespecial; athrow -/
theorem vx_throwS {cc : ByteArray} {pc : Nat} (hexec : p.tables.exec = Jvm.exec) (hb : c.code = cc) (hl : l.stackTraces = false) {own cls text : String} {names : List String} {ik is ic mc ms sa : Nat} {A : Nat → Prop}
    (hown : s.vm.findClass own = some m.cls) (hcls : Bundle.fit cls = true) (hnames : ∀ n ∈ names, Bundle.fit n = true)
    (hk : (Cond.classLink own ik cls).before args s = true) (hini : (Cond.initialized cls).before args s = true) (hstr : vk_R own is text sa s) (hat : ∀ w ∈ vx_atS own ic cls names, w.before args s = true)
    (hgood : ∀ w ∈ Cond.classLink own ik cls :: Cond.initialized cls :: vx_atS own ic cls names, vx_ot w = true)
    (hU : vx_Zq Bundle.tN "UNASSIGNED_STACK" Bundle.steD A s s.heap) (hN : vx_Zq Bundle.tN "SUPPRESSED_SENTINEL" Bundle.listD A s s.heap) (hS : va_S A s.heap H locs) (hsize : ls.size = c.maxLocals)
    (d0 : decode cc pc = .ok (.new ik, 3)) (d3 : decode cc (pc + 3) = .ok (.dup, 1)) (d4 : decode cc (pc + 4) = .ok (.ldc is, 2)) (d6 : decode cc (pc + 6) = .ok (.invokespecial ic, 3)) (d9 : decode cc (pc + 9) = .ok (.athrow, 1))
    (hout : ∀ x ∈ c.exceptionTable.toList, covers x (pc + 9) = false)
    (hRframes : names.length + 3 < R.frames) (hRlocals : (rest.map fun v => v.category).sum + (13 * (names.length + 1) + 43) ≤ R.locals) (hRcells : cells + 1 ≤ R.cells) (hRslots : slots + 6 ≤ R.slots) (hlocks : meth.locks = false)
    (hx : ∀ t : State, s.vm.Alike t.vm → H.size ≤ t.heap.size → (∀ q : Nat, q < H.size → t.heap[q]? = H[q]?) → XC cls s t)
    (hf : ∀ z ∈ locs, free z.base) (hc : cells + 1 ≤ mc) (hs : slots + 6 ≤ ms) :
    W p l e R s m args below meth c H locs cells slots (vx_MQ below Qc XC args s mc ms free) (F0 m pc ls rest) := by
  intro T hT X
  have htr : e.platform.stackTraces = false := (show e.platform.stackTraces = l.stackTraces by rw [X.admits.platform]).trans hl
  have Y := vx_rebase X (R' := { frames := R.frames, locals := R.locals, cells := 1, slots := 6 }) (Nat.le_refl _) (Nat.le_refl _) hRcells hRslots
  obtain ⟨s', hA⟩ : ∃ z, z = (T.setVm s.vm).setFrames (.invoking m args :: below) := ⟨_, rfl⟩
  rw [← hA] at Y
  have hvm : s'.vm = s.vm := by rw [hA]; rfl
  have hhp : s'.heap = H := by rw [hA]; exact hT
  have hW0 : s.WarmedH s'.vm := by rw [hvm]; exact State.WarmedH.refl s
  have hat' : ∀ w ∈ vx_atS own ic cls names, w.before args s' = true := fun w hw => vx_ot_at hW0 hvm.symm (hgood w (List.mem_cons_of_mem _ (List.mem_cons_of_mem _ hw))) (hat w hw)
  have hk' : (Cond.classLink own ik cls).before args s' = true := vx_ot_at hW0 hvm.symm (hgood _ List.mem_cons_self) hk
  have hini' : (Cond.initialized cls).before args s' = true := vx_ot_at hW0 hvm.symm (hgood _ (List.mem_cons_of_mem _ List.mem_cons_self)) hini
  have hU' : vx_Zq Bundle.tN "UNASSIGNED_STACK" Bundle.steD A s' s'.heap := by rw [hhp]; exact vx_Zq.moved hW0.alike (hU.kept hS.2.1)
  have hN' : vx_Zq Bundle.tN "SUPPRESSED_SENTINEL" Bundle.listD A s' s'.heap := by rw [hhp]; exact vx_Zq.moved hW0.alike (hN.kept hS.2.1)
  have h : ∀ w ∈ Bundle.ownAtoms own ic cls names, w.before args s' = true := vx_own hat' (vx_isRefq hU'.1) (vx_isRefq hN'.1) hU'.2.word hN'.2.word
  have hown' : s'.vm.findClass own = some m.cls := by rw [hvm]; exact hown
  have hins : (Cond.instantiable cls 6).before args s' = true := h _ (by simp [Bundle.ownAtoms])
  obtain ⟨vm₁, cX, kX, hfX, hkX, -, -, X₁, st1⟩ := Y.newCold hexec (own := own) (C := cls) (index := ik) (n := 6) hown' hk' hins hini'
    (g := F0 m pc ls rest) rfl (by rw [hb]; exact d0) (Nat.le_refl _) (Nat.le_refl _)
  generalize hT1 : (T.setVm vm₁).pushCell { cls := cX, slots := kX.instanceTypes.map defaultValue, vm := .none } = T1 at X₁ st1
  have hcat : (Value.ref T.heap.size).category = 1 := rfl
  have hcellA : T1.heap[T.heap.size]? = some (freshCell cX kX) := by rw [← hT1]; exact State.heap_pushCell_size _ _
  have d3' : decode c.code (pc + 3) = .ok (.dup, 1) := by rw [hb]; exact d3
  have d4' : decode c.code (pc + 4) = .ok (.ldc is, 2) := by rw [hb]; exact d4
  have hstr' : vk_R own is text sa s' := vk_R.warm hW0 hstr
  obtain ⟨U, hsteps, hrun, hend, hW, hsame, ce, hce, hO⟩ := X₁.ctorThrowS hexec htr (own := own) (cls := cls) (names := names) (ic := ic) hown' hcls hnames h (fun x hx => nomatch hx) hfX hkX hcellA (by rw [hhp, hT]; exact Nat.le_refl _) (msg := .ref sa) rfl
    (g := { method := m, pc := pc + 6, locals := ls, stack := .ref sa :: .ref T.heap.size :: .ref T.heap.size :: rest, locked := none }) rfl hsize rfl rfl (rest := rest) rfl
    (by rw [hb]; exact d6) (by rw [hb]; exact d9) hout hRframes (by simp only [List.map_cons, List.sum_cons, hcat]; omega) hlocks
  obtain ⟨f1, f2⟩ := vx_frame hsame
  rw [hhp] at f1 f2
  have hWs : s.WarmedH U.vm := State.WarmedH.trans hW0 hW
  have hcl : s.vm.findClass cls = some ce.cls := by
    have h9 := hO.cls
    rw [hvm] at h9
    exact h9
  have hall : s.sameButNew ({ U with vm := s.vm } : State) locs mc ms := by
    subst hA
    obtain ⟨e1, e2⟩ := hsame
    rw [State.setFrames_setFrames] at e1
    have h2 : (T.setVm s.vm).sameButNew ({ U with vm := s.vm } : State) [] (0 + 1) (0 + 6) := ⟨e1, e2⟩
    have h3 := X.same.trans h2
    rw [List.append_nil] at h3
    exact h3.mono hc hs
  refine ⟨U, ?_, .threw T.heap.size, hrun, hend, Or.inr ⟨T.heap.size, rfl, cls, ce, locs, hx U hWs.alike f1 (fun q hq => f2 q hq (fun z hz => nomatch hz)), hce, hO.vm, hcl, hWs, hall, hf⟩⟩
  refine st1 _ ?_
  show Steps p.tables e below (T1.setTop { method := m, pc := pc + 3, locals := ls, stack := .ref T.heap.size :: rest, locked := none }) _
  jvm_step X₁.here [X₁.here.top, hexec, d3', Value.category]
  exact X₁.ldcString hexec (own := own) (text := text) (index := is) (a := sa) hown' hstr'.1 hstr'.2
    (g := { method := m, pc := pc + 4, locals := ls, stack := .ref T.heap.size :: .ref T.heap.size :: rest, locked := none }) rfl d4' _ hsteps
/-- 'throw new E("text")', the text by a wide index -/
theorem vx_throwSW {cc : ByteArray} {pc : Nat} (hexec : p.tables.exec = Jvm.exec) (hb : c.code = cc) (hl : l.stackTraces = false) {own cls text : String} {names : List String} {ik is ic mc ms sa : Nat} {A : Nat → Prop}
    (hown : s.vm.findClass own = some m.cls) (hcls : Bundle.fit cls = true) (hnames : ∀ n ∈ names, Bundle.fit n = true)
    (hk : (Cond.classLink own ik cls).before args s = true) (hini : (Cond.initialized cls).before args s = true) (hstr : vk_R own is text sa s) (hat : ∀ w ∈ vx_atS own ic cls names, w.before args s = true)
    (hgood : ∀ w ∈ Cond.classLink own ik cls :: Cond.initialized cls :: vx_atS own ic cls names, vx_ot w = true)
    (hU : vx_Zq Bundle.tN "UNASSIGNED_STACK" Bundle.steD A s s.heap) (hN : vx_Zq Bundle.tN "SUPPRESSED_SENTINEL" Bundle.listD A s s.heap) (hS : va_S A s.heap H locs) (hsize : ls.size = c.maxLocals)
    (d0 : decode cc pc = .ok (.new ik, 3)) (d3 : decode cc (pc + 3) = .ok (.dup, 1)) (d4 : decode cc (pc + 4) = .ok (.ldc_w is, 3)) (d7 : decode cc (pc + 7) = .ok (.invokespecial ic, 3)) (d10 : decode cc (pc + 10) = .ok (.athrow, 1))
    (hout : ∀ x ∈ c.exceptionTable.toList, covers x (pc + 10) = false)
    (hRframes : names.length + 3 < R.frames) (hRlocals : (rest.map fun v => v.category).sum + (13 * (names.length + 1) + 43) ≤ R.locals) (hRcells : cells + 1 ≤ R.cells) (hRslots : slots + 6 ≤ R.slots) (hlocks : meth.locks = false)
    (hx : ∀ t : State, s.vm.Alike t.vm → H.size ≤ t.heap.size → (∀ q : Nat, q < H.size → t.heap[q]? = H[q]?) → XC cls s t)
    (hf : ∀ z ∈ locs, free z.base) (hc : cells + 1 ≤ mc) (hs : slots + 6 ≤ ms) :
    W p l e R s m args below meth c H locs cells slots (vx_MQ below Qc XC args s mc ms free) (F0 m pc ls rest) := by
  intro T hT X
  have htr : e.platform.stackTraces = false := (show e.platform.stackTraces = l.stackTraces by rw [X.admits.platform]).trans hl
  have Y := vx_rebase X (R' := { frames := R.frames, locals := R.locals, cells := 1, slots := 6 }) (Nat.le_refl _) (Nat.le_refl _) hRcells hRslots
  obtain ⟨s', hA⟩ : ∃ z, z = (T.setVm s.vm).setFrames (.invoking m args :: below) := ⟨_, rfl⟩
  rw [← hA] at Y
  have hvm : s'.vm = s.vm := by rw [hA]; rfl
  have hhp : s'.heap = H := by rw [hA]; exact hT
  have hW0 : s.WarmedH s'.vm := by rw [hvm]; exact State.WarmedH.refl s
  have hat' : ∀ w ∈ vx_atS own ic cls names, w.before args s' = true := fun w hw => vx_ot_at hW0 hvm.symm (hgood w (List.mem_cons_of_mem _ (List.mem_cons_of_mem _ hw))) (hat w hw)
  have hk' : (Cond.classLink own ik cls).before args s' = true := vx_ot_at hW0 hvm.symm (hgood _ List.mem_cons_self) hk
  have hini' : (Cond.initialized cls).before args s' = true := vx_ot_at hW0 hvm.symm (hgood _ (List.mem_cons_of_mem _ List.mem_cons_self)) hini
  have hU' : vx_Zq Bundle.tN "UNASSIGNED_STACK" Bundle.steD A s' s'.heap := by rw [hhp]; exact vx_Zq.moved hW0.alike (hU.kept hS.2.1)
  have hN' : vx_Zq Bundle.tN "SUPPRESSED_SENTINEL" Bundle.listD A s' s'.heap := by rw [hhp]; exact vx_Zq.moved hW0.alike (hN.kept hS.2.1)
  have h : ∀ w ∈ Bundle.ownAtoms own ic cls names, w.before args s' = true := vx_own hat' (vx_isRefq hU'.1) (vx_isRefq hN'.1) hU'.2.word hN'.2.word
  have hown' : s'.vm.findClass own = some m.cls := by rw [hvm]; exact hown
  have hins : (Cond.instantiable cls 6).before args s' = true := h _ (by simp [Bundle.ownAtoms])
  obtain ⟨vm₁, cX, kX, hfX, hkX, -, -, X₁, st1⟩ := Y.newCold hexec (own := own) (C := cls) (index := ik) (n := 6) hown' hk' hins hini'
    (g := F0 m pc ls rest) rfl (by rw [hb]; exact d0) (Nat.le_refl _) (Nat.le_refl _)
  generalize hT1 : (T.setVm vm₁).pushCell { cls := cX, slots := kX.instanceTypes.map defaultValue, vm := .none } = T1 at X₁ st1
  have hcat : (Value.ref T.heap.size).category = 1 := rfl
  have hcellA : T1.heap[T.heap.size]? = some (freshCell cX kX) := by rw [← hT1]; exact State.heap_pushCell_size _ _
  have d3' : decode c.code (pc + 3) = .ok (.dup, 1) := by rw [hb]; exact d3
  have d4' : decode c.code (pc + 4) = .ok (.ldc_w is, 3) := by rw [hb]; exact d4
  have hstr' : vk_R own is text sa s' := vk_R.warm hW0 hstr
  obtain ⟨U, hsteps, hrun, hend, hW, hsame, ce, hce, hO⟩ := X₁.ctorThrowS hexec htr (own := own) (cls := cls) (names := names) (ic := ic) hown' hcls hnames h (fun x hx => nomatch hx) hfX hkX hcellA (by rw [hhp, hT]; exact Nat.le_refl _) (msg := .ref sa) rfl
    (g := { method := m, pc := pc + 7, locals := ls, stack := .ref sa :: .ref T.heap.size :: .ref T.heap.size :: rest, locked := none }) rfl hsize rfl rfl (rest := rest) rfl
    (by rw [hb]; exact d7) (by rw [hb]; exact d10) hout hRframes (by simp only [List.map_cons, List.sum_cons, hcat]; omega) hlocks
  obtain ⟨f1, f2⟩ := vx_frame hsame
  rw [hhp] at f1 f2
  have hWs : s.WarmedH U.vm := State.WarmedH.trans hW0 hW
  have hcl : s.vm.findClass cls = some ce.cls := by
    have h9 := hO.cls
    rw [hvm] at h9
    exact h9
  have hall : s.sameButNew ({ U with vm := s.vm } : State) locs mc ms := by
    subst hA
    obtain ⟨e1, e2⟩ := hsame
    rw [State.setFrames_setFrames] at e1
    have h2 : (T.setVm s.vm).sameButNew ({ U with vm := s.vm } : State) [] (0 + 1) (0 + 6) := ⟨e1, e2⟩
    have h3 := X.same.trans h2
    rw [List.append_nil] at h3
    exact h3.mono hc hs
  refine ⟨U, ?_, .threw T.heap.size, hrun, hend, Or.inr ⟨T.heap.size, rfl, cls, ce, locs, hx U hWs.alike f1 (fun q hq => f2 q hq (fun z hz => nomatch hz)), hce, hO.vm, hcl, hWs, hall, hf⟩⟩
  refine st1 _ ?_
  show Steps p.tables e below (T1.setTop { method := m, pc := pc + 3, locals := ls, stack := .ref T.heap.size :: rest, locked := none }) _
  jvm_step X₁.here [X₁.here.top, hexec, d3', Value.category]
  exact X₁.ldcStringW hexec (own := own) (text := text) (index := is) (a := sa) hown' hstr'.1 hstr'.2
    (g := { method := m, pc := pc + 4, locals := ls, stack := .ref T.heap.size :: .ref T.heap.size :: rest, locked := none }) rfl d4' _ hsteps
end Ends
section Bodies
variable {l : Launch}
theorem vx_ofW {y : MethodName} {ws ws' : List Cond} {rm : Room} {Pc : Array Value → State → Prop} {Qc : Array Value → State → Outcome → State → Prop} {XC : String → State → State → Prop} {mc ms : Nat} {free : Addr → Prop} {cc : ByteArray} {maxL : Nat} {ret : Option FieldType}
    (hy : plainName y.cls = true) (hw : ws = Cond.code y cc maxL ret :: ws')
    (body : ∀ p e s m args below meth c s₁, BodyLoose p l y (headSpec ws rm) cc maxL ret e s m args below meth c s₁ → c.maxLocals = maxL → (∀ x ∈ c.exceptionTable.toList, False) → Pc args s →
      W p l e (headSpec ws rm).room s m args below meth c s.heap [] 0 0 (vx_MQ below Qc XC args s mc ms free) (entryFrame m args maxL)) : vx_Met l y ws rm Pc Qc XC mc ms free := by
  refine MetFree.of_bodyS (code := cc) (maxLocals := maxL) (ret := ret) hy ?_ ?_
  · intro args s m h hn
    obtain ⟨meth, c, h1, h2, h3, h4, h5, h6, -, -⟩ := Cond.code_spec hn (atoms_spec (ws := ws) h _ (by rw [hw]; exact List.mem_cons_self))
    exact ⟨meth, c, h1, h2, h3, h4, h5, h6⟩
  · intro p e s m args below meth c s₁ B hml hP _
    have hh0 : s₁.heap = s.heap := by rw [B.state]; rfl
    have ht : ∀ x ∈ c.exceptionTable.toList, False := by
      obtain ⟨meth9, c9, h1, h2, -, -, -, -, h7, -⟩ := Cond.code_spec B.named (atoms_spec (ws := ws) B.pre _ (by rw [hw]; exact List.mem_cons_self))
      cases Option.some.inj (h1.symm.trans B.method)
      cases Option.some.inj (h2.symm.trans (Stand.of_body B).code)
      intro x hx
      rw [Array.isEmpty_iff.mp h7] at hx
      cases hx
    obtain ⟨t, a1, o, b1, b2, b3⟩ := body p e s m args below meth c s₁ B hml ht hP s₁ hh0 (Stand.of_body B)
    exact ⟨t, o, a1, b1, b2, b3⟩
/-- the table of a body with handlers -/
theorem vx_table {p : Program} {x y : MethodName} {S : Spec} {cc bytes : ByteArray} {maxL maxL' : Nat} {ret ret' : Option FieldType} {e : Env} {s s₁ : State} {m : MethodId} {args : Array Value} {below : List Frame} {meth : Method} {c : Code} {hh : List (Nat × Nat × Nat × Nat)}
    (B : BodyLoose p l y S cc maxL ret e s m args below meth c s₁) (h : (Cond.codeWith y bytes maxL' ret' hh).before args s = true) : c.exceptionTable.toList = tableOf hh := by
  obtain ⟨m9, meth9, c9, hn9, h1, h2, -, -, h6, -⟩ := Cond.codeWith_spec h
  cases Option.some.inj (hn9.symm.trans B.named)
  cases Option.some.inj (h1.symm.trans B.method)
  cases Option.some.inj (h2.symm.trans (Stand.of_body B).code)
  rw [← h6, table_eq]
end Bodies
end VXA
/-! ===== END ===== -/
/-! ===== BEGIN a static call of a method with an exception table ===== -/
section VXS
variable {p : Program} {l : Launch} {e : Env} {R : Room} {s : State} {m : MethodId} {args : Array Value} {below : List Frame} {meth : Method} {c : Code} {T : State} {H : Heap} {locs : List Loc} {cells slots : Nat}
abbrev vx_CSW (R : Room) (s : State) (args : Array Value) (own : String) (index : Nat) (y : MethodName) (bytes : ByteArray) (maxL : Nat) (ret : Option FieldType) (hh : List (Nat × Nat × Nat × Nat)) (ws : List Cond) (rm : Room) (mc ms n : Nat) : Prop :=
  (rm.cells = mc ∧ rm.slots = ms ∧ rm.frames + 1 ≤ R.frames ∧ 8 + (maxL + 11) + rm.locals ≤ R.locals ∧ (∀ w ∈ ws, ∀ (a' : Array Value) (U : State), s.WarmedH U.vm → w.before a' U = true) ∧ Cond.codeWith y bytes maxL ret hh ∈ ws) ∧
  (Cond.codeWith y bytes maxL ret hh).before args s = true ∧ (Cond.initialized y.cls).before args s = true ∧ (y.cls ≠ "java/lang/invoke/MethodHandle" ∧ y.cls ≠ "java/lang/invoke/VarHandle") ∧
  (∀ sig, parseMethodDescriptor y.desc = some sig → n = sig.parameters.length) ∧ (Cond.methodLink own index y).before args s = true ∧ (Cond.static y).before args s = true
theorem vx_cwSW {own : String} {index maxL mc ms : Nat} {y : MethodName} {bytes : ByteArray} {ret : Option FieldType} {hh : List (Nat × Nat × Nat × Nat)} {Ts ws ws' : List Cond} {rm : Room} (n : Nat) (ht : ∀ w ∈ Ts, w.before args s = true) (hT : GoodIn Ts (va_wsS own index y ws)) (hw : ws = Cond.codeWith y bytes maxL ret hh :: ws') (hrc : rm.cells = mc) (hrs : rm.slots = ms)
    (hd : y.cls ≠ "java/lang/invoke/MethodHandle" ∧ y.cls ≠ "java/lang/invoke/VarHandle" ∧ (parseMethodDescriptor y.desc).map (fun d => d.parameters.length) = some n) (hR : rm.frames + 1 ≤ R.frames ∧ 8 + (maxL + 11) + rm.locals ≤ R.locals) :
    vx_CSW R s args own index y bytes maxL ret hh ws rm mc ms n := by
  have ok : ∀ w ∈ va_wsS own index y ws, w.before args s = true := fun w h => ht w (hT w h).1
  have hG : GoodIn Ts ws := fun w h => hT w (by unfold va_wsS; exact List.mem_append_right _ h)
  have hc : Cond.codeWith y bytes maxL ret hh ∈ ws := by rw [hw]; exact List.mem_cons_self
  refine ⟨⟨hrc, hrs, hR.1, hR.2, pay_in ht hG, hc⟩, ht _ (hG _ hc).1, ok _ (by simp [va_wsS]), ⟨hd.1, hd.2.1⟩, fun sig h => ?_, ok _ (by simp [va_wsS]), ok _ (by simp [va_wsS])⟩
  have h2 := hd.2.2
  rw [h] at h2
  exact (Option.some.inj h2).symm
theorem vx_callSW (X : Stand p l e R s m args below meth c T locs cells slots) (hexec : p.tables.exec = Jvm.exec) {own : String} {index : Nat} {y : MethodName} {bytes : ByteArray} {maxL : Nat} {ret : Option FieldType} {hh : List (Nat × Nat × Nat × Nat)}
    (hown : s.vm.findClass own = some m.cls) (hlink : (Cond.methodLink own index y).before args s = true) (hstat : (Cond.static y).before args s = true) (hinit : (Cond.initialized y.cls).before args s = true)
    (hcode : (Cond.codeWith y bytes maxL ret hh).before args s = true) (hy : y.cls ≠ "java/lang/invoke/MethodHandle" ∧ y.cls ≠ "java/lang/invoke/VarHandle")
    {W9 : Nat} {Pre : Pt → Array Value → Prop} {Post : Pt → Array Value → Option Value → Pt → Prop} (hK : Back l R p e below s args y 3 W9 Pre Post)
    {g : JFrame} (hg : g.method = m) (hsize : g.locals.size = c.maxLocals) {argsL rest : List Value} (hlen : ∀ sig, parseMethodDescriptor y.desc = some sig → argsL.length = sig.parameters.length)
    (hstack : g.stack = argsL.reverse ++ rest) (hW : 2 * g.monitorRoom + (rest.map fun v => v.category).sum ≤ W9) (hdg : decode c.code g.pc = .ok (.invokestatic index, 3))
    (hpre : ∀ vm₁, s.WarmedH vm₁ → Pre ⟨T.setVm vm₁, locs, cells, slots⟩ argsL.toArray) :
    ∃ (v : Option Value) (vm₁ : Vm) (B : Pt), s.WarmedH vm₁ ∧ Stand p l e R s m args below meth c B.U B.locs B.cells B.slots ∧ Post ⟨T.setVm vm₁, locs, cells, slots⟩ argsL.toArray v B ∧
      ∀ target, Steps p.tables e below (B.U.setTop { g with pc := g.pc + 3, stack := v.toList ++ rest }) target → Steps p.tables e below (T.setTop g) target := by
  obtain ⟨mk, methM, cM, hnamed, hmethM, -, -, -, -, -, -, hsigM⟩ := Cond.codeWith_spec hcode
  have hstatic : methM.isStatic = true := Cond.static_spec hnamed hmethM hstat
  obtain ⟨kP, hkP, -⟩ := className_of_methodNamed hnamed
  have hinitP : kP.init = .initialized := Cond.initialized_spec (findClass_of_methodNamed hnamed) hkP hinit
  obtain ⟨vm₁, X₁, hstep₁⟩ := X.invokestatic hexec hown hlink hnamed hmethM hstatic hkP hinitP hy (g := g) hg (argsL := argsL) (rest := rest) (hlen _ hsigM) hstack hdg
  obtain ⟨v, B, X', hpost, hsteps⟩ := hK m meth c ⟨T.setVm vm₁, locs, cells, slots⟩ { g with stack := rest } (.invokestatic index) mk argsL.toArray X₁ hg hsize hdg hW (X₁.named hnamed) (hpre vm₁ X₁.warmed)
  exact ⟨v, vm₁, B, X₁.warmed, X', hpost, fun target h => hstep₁ _ fun acts => by rw [doInvoke_state]; exact hsteps.trans h⟩
theorem vx_runSW {y : MethodName} {bytes cc : ByteArray} {maxL nL mc ms n index : Nat} {ret : Option FieldType} {hh : List (Nat × Nat × Nat × Nat)} {ws : List Cond} {rm : Room} {Pc : Array Value → State → Prop} {Qc : Array Value → State → Outcome → State → Prop} {free : Addr → Prop} {Ts : List Cond} {own : String} {As rest : List Value} {g : JFrame}
    (S : CallFix p m c cc nL s args Ts own) (hM : Met l y ws rm Pc Qc mc ms free) (cw : vx_CSW R s args own index y bytes maxL ret hh ws rm mc ms n) (hp : PreS s H Pc As)
    (hg : g.method = m) (hn : As.length = n) (hsize : g.locals.size = nL) (hstack : g.stack = As.reverse ++ rest) (hW : 2 * g.monitorRoom + (rest.map fun v => v.category).sum ≤ 8) (hdg : decode cc g.pc = .ok (.invokestatic index, 3)) (hf : cells + mc ≤ R.cells ∧ slots + ms ≤ R.slots) :
    va_Run p l e R s m args below meth c H locs cells slots mc ms g rest (Qc As.toArray) (free) := by
  obtain ⟨⟨hrc, hrs, hfr, hlo, hws, hcw⟩, hcode, hini, hy, hlen, hl, hstt⟩ := cw
  have hK : Back l R p e below s args y 3 8 (PreOf R mc ms Pc) (PostOf Qc mc ms free) := va_backW (hh := hh) (bytes := bytes) (maxL := maxL) (ret := ret) hM hp.1 hrc hrs hfr hlo hws hcw (fun a' U hW => word_at hW (Or.inl (by first | rfl | simp [Cond.onTables, Cond.keeps, Cond.steady])) hini)
  obtain ⟨hx, hb, hml, ho, -⟩ := S
  intro T hT X
  obtain ⟨v, vm₁, ⟨U', l2, c2, s2⟩, hW₁, X', ⟨g', mk, t, L, e1, e2, hq, h1, hL, h2, h3⟩, st⟩ := vx_callSW X hx (hh := hh) (bytes := bytes) (maxL := maxL) (ret := ret) ho hl hstt hini hcode hy hK hg (hsize.trans hml.symm) (argsL := As) (rest := rest) (fun sig h => hn.trans (hlen sig h)) hstack hW (by rw [hb]; exact hdg)
    (fun vm₁ hW₁ => ⟨hf.1, hf.2, hp.2 (T.setVm vm₁) hT hW₁⟩)
  dsimp only [Pt.U, Pt.locs, Pt.cells, Pt.slots] at X' e1 e2 h1 h2 h3 st
  subst h1; subst h2; subst h3
  exact ⟨v, (T.setVm vm₁).calling g' mk As.toArray, t, U', L, hT, X', hL, e1, e2, hq, st⟩
/-- not caught here, past rows that name other classes: it goes on to the caller -/
theorem vx_outP {p : Program} {l : Launch} {e : Env} {R : Room} {s : State} {m : MethodId} {args : Array Value} {below : List Frame} {meth : Method} {c : Code} {H : Heap} {locs : List Loc} {cells slots : Nat} {free : Addr → Prop} {ls : Array Slot} {rest : List Value} {Qc : Array Value → State → Outcome → State → Prop} {XC : String → State → State → Prop}
    {pc : Nat} {own E : String} {ce : Cell} {q : Addr} {mc ms : Nat} (hown : s.vm.findClass own = some m.cls) (hlocks : meth.locks = false)
    (hpass : ∀ z ∈ c.exceptionTable.toList, covers z pc = false ∨ (z.catchType ≠ 0 ∧ ∃ nm : String, (Cond.classLink own z.catchType nm).before args s = true ∧ va_Nc E nm s)) (hcell : H[q]? = some ce) (hv : ce.vm = .none) (hcl : s.vm.findClass E = some ce.cls)
    (hx : ∀ t : State, t.heap = H → s.vm.Alike t.vm → XC E s t) (hf : ∀ z ∈ locs, free z.base) (hc : cells ≤ mc) (hs : slots ≤ ms) :
    vx_W p l e R s m args below meth c H locs cells slots (vx_MQ below Qc XC args s mc ms free) (F0 m pc ls rest) q := by
  intro T hT X
  have hpl : e.platform.magicAccessors = ({} : Platform).magicAccessors := by rw [X.admits.platform]
  obtain ⟨vm', hW', X', st⟩ := X.outThrough hlocks q (g := F0 m pc ls rest) rfl rfl rfl (cell := ce) (by rw [hT]; exact hcell) (by rw [hv]; rfl)
    (by obtain ⟨k9, h9, -⟩ := Vm.findClass_spec hcl; exact ⟨k9, h9⟩) (fun z hz => by
      rcases hpass z hz with h | ⟨hz0, nm, hl1, hn1⟩
      · exact Or.inl h
      · obtain ⟨c6, hc6, hcl6⟩ := Cond.classLink_spec hown hl1 e.platform hpl
        obtain ⟨a8, b8, h1, h2, h3⟩ := hn1
        cases Option.some.inj (h1.symm.trans hcl)
        cases Option.some.inj (h2.symm.trans hc6)
        exact Or.inr ⟨hz0, _, hcl6, h3⟩)
  obtain ⟨g₀, hfr⟩ := X'.frames_eq
  have hcell9 : ((T.setVm vm').setFrames (.throwing q :: below)).heap[q]? = some ce := by
    show T.heap[q]? = some ce
    rw [hT]; exact hcell
  have hend : Ended ((T.setVm vm').setFrames (.throwing q :: below)) below (.threw q) := State.frames_setFrames _ (State.cur_lt_of_frames hfr)
  refine ⟨(T.setVm vm').setFrames (.throwing q :: below), ?_, .threw q, X'.here.running, hend, Or.inr ⟨q, rfl, E, ce, locs, hx _ hT (X'.ends _).1.alike, hcell9, hv, hcl, (X'.ends _).1, (X'.ends _).2.mono hc hs, hf⟩⟩
  rw [X.pushThrowing_eq]
  exact st
/-- a thing of a world lies in the heap -/
theorem vx_lt {D : va_G} {cl : List vw_C} {ws : va_W} {H1 : Heap} (h : va_P D cl ws H1) {k : Nat} {q : Nat × va_E} (hk : ws[k]? = some q) : q.1 < H1.size := (h k q hk).lt
end VXS
/-! ===== END ===== -/
/-! ===== BEGIN methods with a table of their own: called by a name, returning or throwing ===== -/
section VXH
/-! vx_backW, vx_callVX, vx_callSX, vx_callVW, vx_runVW, vx_runVX, vx_runSX, vx_ofWH follow the same proofs as their sisters above (Free/Laws.lean, Shelf42/LK1.lean); vx_outP calls Shelf42/NT130.lean (outThrough). -/
section
variable {l : Launch} {R : Room} {p : Program} {e : Env} {below : List Frame} {s : State} {sargs : Array Value} {y : MethodName} {len W9 : Nat}
theorem vx_backW {ws : List Cond} {rm : Room} {Pc : Array Value → State → Prop} {Qc : Array Value → State → Outcome → State → Prop} {XC : String → State → State → Prop} {mc ms : Nat} {free : Addr → Prop} {bytes : ByteArray} {maxL : Nat} {ret : Option FieldType} {hh : List (Nat × Nat × Nat × Nat)}
    (hM : vx_Met l y ws rm Pc Qc XC mc ms free) (hblind : FrameBlind Pc) (hrc : rm.cells = mc) (hrs : rm.slots = ms)
    (hframes : rm.frames + 1 ≤ R.frames) (hlocals : W9 + (maxL + 11) + rm.locals ≤ R.locals)
    (hws : ∀ w ∈ ws, ∀ a' U, s.WarmedH U.vm → w.before a' U = true) (hcode : Cond.codeWith y bytes maxL ret hh ∈ ws) (hinit : ∀ a' U, s.WarmedH U.vm → (Cond.initialized y.cls).before a' U = true) :
    vx_Back l R p e below s sargs y len W9 (PreOf R mc ms Pc) (PostOf Qc mc ms free) (vx_Post XC mc ms free) := by
  intro m meth c A g ig mk a X hg hsize hdg hW hn hp
  have h1 : (headSpec ws rm).pre.before a A.U = true := atoms_intro fun w hw => hws w hw _ _ X.warmed
  have h2 : (Cond.codeWith y bytes maxL ret hh).before a A.U = true := hws _ hcode _ _ X.warmed
  have h3 : (Cond.initialized y.cls).before a A.U = true := hinit _ _ X.warmed
  have h4 : A.cells + (headSpec ws rm).room.cells ≤ R.cells := by rw [show (headSpec ws rm).room.cells = mc from hrc]; exact hp.1
  have h5 : A.slots + (headSpec ws rm).room.slots ≤ R.slots := by rw [show (headSpec ws rm).room.slots = ms from hrs]; exact hp.2.1
  have hPc : Pc a (A.U.calling g mk a) := hblind _ _ _ _ hp.2.2
  obtain ⟨U, Ls, c0, s0⟩ := A
  dsimp only [Pt.U, Pt.locs, Pt.cells, Pt.slots] at h1 h2 h3 h4 h5 X hn hPc ⊢
  obtain ⟨m9, methY, cY, hn9, hmY, hcY, -, hlY, -⟩ := Cond.codeWith_spec h2
  cases Option.some.inj (hn9.symm.trans hn)
  obtain ⟨kY, hkY, -⟩ := className_of_methodNamed hn
  have hinitY : kY.init = .initialized := Cond.initialized_spec (findClass_of_methodNamed hn) hkY h3
  have h : At U g.method c below := by rw [hg]; exact X.here
  have hlocals9 : W9 + (maxL + 11) + (headSpec ws rm).room.locals ≤ R.locals := hlocals
  have happ : (headSpec ws rm).appliesLoose y e.platform (U.calling g mk a) = true :=
    Spec.appliesLoose_calling (g := g) h hdg hn hkY hinitY
      (X.room_calling (g := g) (R' := (headSpec ws rm).room) hsize hmY hcY hframes (by rw [hlY]; omega) h4 h5) h1
  obtain ⟨mid, hmid⟩ := h.above
  have hfr : (U.setTop g).frames = (.java g :: mid) ++ below := by rw [State.frames_setTop' g h.top, hmid]; rfl
  obtain ⟨o, s₂, hsteps, -, hend, hq⟩ := Steps.callFree hM p X.admits X.cas X.clock (acts := []) hfr happ hPc trivial
  have hq' : vx_Q Qc XC mc ms free a (U.calling g mk a) o s₂ := hq
  rw [State.frames_setTop' g h.top] at hend
  obtain ⟨g₀, hg0⟩ := Option.isSome_iff_exists.mp h.top
  obtain ⟨r, hr⟩ := State.topJava?_eq_some.mp hg0
  have hr' : (({ U with heap := s₂.heap, slotsUsed := s₂.slotsUsed } : State).setVm s₂.vm).frames = .java g₀ :: r := hr
  rcases hq' with ⟨hqc, L, hfe, hL⟩ | ⟨q, rfl, E, ce, L, hx, hce, hcv, hcl, hW₂, hsm, hL⟩
  · obtain ⟨⟨v, rfl⟩, hW₂, e2, q2, q3, q4, q5, q6⟩ := id hfe
    have e3 : s₂ = ({ (U.calling g mk a).setFrames s₂.frames with heap := s₂.heap, slotsUsed := s₂.slotsUsed } : State).setVm s₂.vm := by
      have : s₂ = ({ s₂ with vm := (U.calling g mk a).vm } : State).setVm s₂.vm := rfl
      rw [e2] at this
      exact this
    obtain ⟨c₂, i₂, len₂, hc₂, hd₂, hf₂⟩ := hend
    have hW' : U.WarmedH s₂.vm := hW₂
    have hcc : c₂ = c := by
      have h1 : s₂.code? g.method = U.code? g.method := by
        rw [State.code?_eq, State.code?_eq, hW'.alike.method?]
      exact Option.some.inj (hc₂.symm.trans (h1.trans h.code))
    subst hcc
    have hlen : len₂ = len := by rw [hdg] at hd₂; cases hd₂; rfl
    subst hlen
    have hs₂ : s₂ = (({ U with heap := s₂.heap, slotsUsed := s₂.slotsUsed } : State).setVm s₂.vm).setTop { g with pc := g.pc + len₂, stack := v.toList ++ g.stack } := by
      refine e3.trans ?_
      rw [hf₂, State.calling_eq h.top, State.setFrames_setFrames, State.setTop_of_frames _ hr', hr]
      rfl
    have hsame : U.sameButNew ({ U with heap := s₂.heap, slotsUsed := s₂.slotsUsed } : State) L mc ms := by
      refine ⟨?_, q2, q3, q4, q5, q6⟩
      obtain ⟨t, ht, -⟩ := State.frames_cons hr
      show ({ U with heap := s₂.heap, slotsUsed := s₂.slotsUsed } : State) = { U.setFrames U.frames with heap := s₂.heap, slotsUsed := s₂.slotsUsed }
      rw [State.setFrames_self ht]
    subst hg
    refine Or.inl ⟨v, ⟨(({ U with heap := s₂.heap, slotsUsed := s₂.slotsUsed } : State).setVm s₂.vm), Ls ++ L, c0 + mc, s0 + ms⟩,
      ⟨X.admits, X.cas, X.clock, X.frames, X.room, X.hears, X.method, X.code, (X.here.setHeapUsed s₂.heap s₂.slotsUsed).setVm hW'.alike, X.tail, State.WarmedH.trans X.warmed hW', X.limits, X.bytes, X.same.trans (hsame.setVm s.vm)⟩,
      ⟨g, mk, s₂, L, rfl, rfl, hqc, rfl, hL, rfl, rfl⟩, ?_⟩
    show Steps p.tables e below _ ((({ U with heap := s₂.heap, slotsUsed := s₂.slotsUsed } : State).setVm s₂.vm).setTop { g with pc := g.pc + len₂, stack := v.toList ++ g.stack })
    rw [← hs₂]
    exact hsteps
  · obtain ⟨e2, q2, q3, q4, q5, q6⟩ := id hsm
    have e3 : s₂ = ({ (U.calling g mk a).setFrames s₂.frames with heap := s₂.heap, slotsUsed := s₂.slotsUsed } : State).setVm s₂.vm := by
      have : s₂ = ({ s₂ with vm := (U.calling g mk a).vm } : State).setVm s₂.vm := rfl
      rw [e2] at this
      exact this
    have hf₂ : s₂.frames = .throwing q :: .java g :: U.frames.tail := hend
    have hW' : U.WarmedH s₂.vm := hW₂
    have hs₂ : s₂ = ((({ U with heap := s₂.heap, slotsUsed := s₂.slotsUsed } : State).setVm s₂.vm).setTop g).pushFrame (.throwing q) := by
      refine e3.trans ?_
      rw [hf₂, State.calling_eq h.top, State.setFrames_setFrames, State.pushFrame, State.frames_setTop _ hr', State.setTop_of_frames _ hr', State.setFrames_setFrames, hr]
      rfl
    have hsame : U.sameButNew ({ U with heap := s₂.heap, slotsUsed := s₂.slotsUsed } : State) L mc ms := by
      refine ⟨?_, q2, q3, q4, q5, q6⟩
      obtain ⟨t, ht, -⟩ := State.frames_cons hr
      show ({ U with heap := s₂.heap, slotsUsed := s₂.slotsUsed } : State) = { U.setFrames U.frames with heap := s₂.heap, slotsUsed := s₂.slotsUsed }
      rw [State.setFrames_self ht]
    subst hg
    refine Or.inr ⟨q, ⟨(({ U with heap := s₂.heap, slotsUsed := s₂.slotsUsed } : State).setVm s₂.vm), Ls ++ L, c0 + mc, s0 + ms⟩,
      ⟨X.admits, X.cas, X.clock, X.frames, X.room, X.hears, X.method, X.code, (X.here.setHeapUsed s₂.heap s₂.slotsUsed).setVm hW'.alike, X.tail, State.WarmedH.trans X.warmed hW', X.limits, X.bytes, X.same.trans (hsame.setVm s.vm)⟩,
      ⟨g, mk, s₂, L, E, ce, rfl, rfl, hx, hce, hcv, hcl, rfl, hL, rfl, rfl⟩, ?_⟩
    show Steps p.tables e below _ (((({ U with heap := s₂.heap, slotsUsed := s₂.slotsUsed } : State).setVm s₂.vm).setTop g).pushFrame (.throwing q))
    rw [← hs₂]
    exact hsteps
end
variable {p : Program} {l : Launch} {e : Env} {R : Room} {s : State} {m : MethodId} {args : Array Value} {below : List Frame} {meth : Method} {c : Code} {T : State} {H : Heap} {locs : List Loc} {cells slots : Nat}
theorem vx_callVX (X : Stand p l e R s m args below meth c T locs cells slots) (hexec : p.tables.exec = Jvm.exec) {own C : String} {index : Nat} {y : MethodName} {bytes : ByteArray} {maxL : Nat} {ret : Option FieldType} {hh : List (Nat × Nat × Nat × Nat)}
    (hown : s.vm.findClass own = some m.cls) (hlink : (Cond.methodLink own index y).before args s = true) (hinst : (Cond.instanceMethod y).before args s = true) (hsel : (Cond.selects C y y).before args s = true)
    (hcode : (Cond.codeWith y bytes maxL ret hh).before args s = true) (hy : y.cls ≠ "java/lang/invoke/MethodHandle" ∧ y.cls ≠ "java/lang/invoke/VarHandle")
    {W9 : Nat} {Pre : Pt → Array Value → Prop} {Post : Pt → Array Value → Option Value → Pt → Prop} {PostX : Pt → Array Value → Addr → Pt → Prop} (hK : vx_Back l R p e below s args y 3 W9 Pre Post PostX)
    {b : Addr} {cellB : Cell} (hcell : T.heap[b]? = some cellB) (hobj : cellB.vm.isStatics = false) (hcls : s.vm.findClass C = some cellB.cls)
    {g : JFrame} (hg : g.method = m) (hsize : g.locals.size = c.maxLocals) {argsL rest : List Value} (hlen : ∀ sig, parseMethodDescriptor y.desc = some sig → argsL.length = sig.parameters.length)
    (hstack : g.stack = argsL.reverse ++ .ref b :: rest) (hW : 2 * g.monitorRoom + (rest.map fun v => v.category).sum ≤ W9) (hdg : decode c.code g.pc = .ok (.invokevirtual index, 3))
    (hpre : ∀ vm₁, s.WarmedH vm₁ → Pre ⟨T.setVm vm₁, locs, cells, slots⟩ (Value.ref b :: argsL).toArray) :
    (∃ (v : Option Value) (vm₁ : Vm) (B : Pt), s.WarmedH vm₁ ∧ Stand p l e R s m args below meth c B.U B.locs B.cells B.slots ∧ Post ⟨T.setVm vm₁, locs, cells, slots⟩ (Value.ref b :: argsL).toArray v B ∧
      ∀ target, Steps p.tables e below (B.U.setTop { g with pc := g.pc + 3, stack := v.toList ++ rest }) target → Steps p.tables e below (T.setTop g) target) ∨
    (∃ (q : Addr) (vm₁ : Vm) (B : Pt), s.WarmedH vm₁ ∧ Stand p l e R s m args below meth c B.U B.locs B.cells B.slots ∧ PostX ⟨T.setVm vm₁, locs, cells, slots⟩ (Value.ref b :: argsL).toArray q B ∧
      Steps p.tables e below (T.setTop g) ((B.U.setTop { g with stack := rest }).pushFrame (.throwing q))) := by
  obtain ⟨mk, methM, hnamed, hmethM, hstM, habM⟩ := Cond.instanceMethod_spec hinst
  obtain ⟨m8, methM', cM, hn8, hmethM', -, -, -, -, -, -, hsigM⟩ := Cond.codeWith_spec hcode
  cases Option.some.inj (hn8.symm.trans hnamed)
  cases hmethM.symm.trans hmethM'
  obtain ⟨c2, r2, m2, q1, q2, q3, q4, kP, hkP, hkPi⟩ := Cond.selects_spec hsel
  cases hcls.symm.trans q1
  cases (State.methodFound?_of_named hnamed hy).symm.trans q2
  cases hnamed.symm.trans q3
  have hselP : selectMethod e.platform s.vm cellB.cls mk = .method mk := by rw [Launch.admits_selectMethod X.admits]; exact q4
  obtain ⟨vm₁, X₁, hstep₁⟩ := X.invokevirtual hexec hown hlink hnamed hmethM hstM hkP hkPi hy (a := b) (cell := cellB) hcell
    (fun z h => by rw [h] at hobj; cases hobj) hselP hmethM habM hkP hkPi (g := g) hg (argsL := argsL) (rest := rest) (hlen _ hsigM) hstack hdg
  rcases hK m meth c ⟨T.setVm vm₁, locs, cells, slots⟩ { g with stack := rest } (.invokevirtual index) mk (Value.ref b :: argsL).toArray X₁ hg hsize hdg hW (X₁.named hnamed) (hpre vm₁ X₁.warmed) with ⟨v, B, X', hpost, hsteps⟩ | ⟨q, B, X', hpost, hsteps⟩
  · exact Or.inl ⟨v, vm₁, B, X₁.warmed, X', hpost, fun target h => hstep₁ _ fun acts => by rw [doInvoke_state]; exact hsteps.trans h⟩
  · exact Or.inr ⟨q, vm₁, B, X₁.warmed, X', hpost, hstep₁ _ fun acts => by rw [doInvoke_state]; exact hsteps⟩
theorem vx_callSX (X : Stand p l e R s m args below meth c T locs cells slots) (hexec : p.tables.exec = Jvm.exec) {own : String} {index : Nat} {y : MethodName} {bytes : ByteArray} {maxL : Nat} {ret : Option FieldType} {hh : List (Nat × Nat × Nat × Nat)}
    (hown : s.vm.findClass own = some m.cls) (hlink : (Cond.methodLink own index y).before args s = true) (hstat : (Cond.static y).before args s = true) (hinit : (Cond.initialized y.cls).before args s = true)
    (hcode : (Cond.codeWith y bytes maxL ret hh).before args s = true) (hy : y.cls ≠ "java/lang/invoke/MethodHandle" ∧ y.cls ≠ "java/lang/invoke/VarHandle")
    {W9 : Nat} {Pre : Pt → Array Value → Prop} {Post : Pt → Array Value → Option Value → Pt → Prop} {PostX : Pt → Array Value → Addr → Pt → Prop} (hK : vx_Back l R p e below s args y 3 W9 Pre Post PostX)
    {g : JFrame} (hg : g.method = m) (hsize : g.locals.size = c.maxLocals) {argsL rest : List Value} (hlen : ∀ sig, parseMethodDescriptor y.desc = some sig → argsL.length = sig.parameters.length)
    (hstack : g.stack = argsL.reverse ++ rest) (hW : 2 * g.monitorRoom + (rest.map fun v => v.category).sum ≤ W9) (hdg : decode c.code g.pc = .ok (.invokestatic index, 3))
    (hpre : ∀ vm₁, s.WarmedH vm₁ → Pre ⟨T.setVm vm₁, locs, cells, slots⟩ argsL.toArray) :
    (∃ (v : Option Value) (vm₁ : Vm) (B : Pt), s.WarmedH vm₁ ∧ Stand p l e R s m args below meth c B.U B.locs B.cells B.slots ∧ Post ⟨T.setVm vm₁, locs, cells, slots⟩ argsL.toArray v B ∧
      ∀ target, Steps p.tables e below (B.U.setTop { g with pc := g.pc + 3, stack := v.toList ++ rest }) target → Steps p.tables e below (T.setTop g) target) ∨
    (∃ (q : Addr) (vm₁ : Vm) (B : Pt), s.WarmedH vm₁ ∧ Stand p l e R s m args below meth c B.U B.locs B.cells B.slots ∧ PostX ⟨T.setVm vm₁, locs, cells, slots⟩ argsL.toArray q B ∧
      Steps p.tables e below (T.setTop g) ((B.U.setTop { g with stack := rest }).pushFrame (.throwing q))) := by
  obtain ⟨mk, methM, cM, hnamed, hmethM, -, -, -, -, -, -, hsigM⟩ := Cond.codeWith_spec hcode
  have hstatic : methM.isStatic = true := Cond.static_spec hnamed hmethM hstat
  obtain ⟨kP, hkP, -⟩ := className_of_methodNamed hnamed
  have hinitP : kP.init = .initialized := Cond.initialized_spec (findClass_of_methodNamed hnamed) hkP hinit
  obtain ⟨vm₁, X₁, hstep₁⟩ := X.invokestatic hexec hown hlink hnamed hmethM hstatic hkP hinitP hy (g := g) hg (argsL := argsL) (rest := rest) (hlen _ hsigM) hstack hdg
  rcases hK m meth c ⟨T.setVm vm₁, locs, cells, slots⟩ { g with stack := rest } (.invokestatic index) mk argsL.toArray X₁ hg hsize hdg hW (X₁.named hnamed) (hpre vm₁ X₁.warmed) with ⟨v, B, X', hpost, hsteps⟩ | ⟨q, B, X', hpost, hsteps⟩
  · exact Or.inl ⟨v, vm₁, B, X₁.warmed, X', hpost, fun target h => hstep₁ _ fun acts => by rw [doInvoke_state]; exact hsteps.trans h⟩
  · exact Or.inr ⟨q, vm₁, B, X₁.warmed, X', hpost, hstep₁ _ fun acts => by rw [doInvoke_state]; exact hsteps⟩
theorem vx_callVW (X : Stand p l e R s m args below meth c T locs cells slots) (hexec : p.tables.exec = Jvm.exec) {own C : String} {index : Nat} {y : MethodName} {bytes : ByteArray} {maxL : Nat} {ret : Option FieldType} {hh : List (Nat × Nat × Nat × Nat)}
    (hown : s.vm.findClass own = some m.cls) (hlink : (Cond.methodLink own index y).before args s = true) (hinst : (Cond.instanceMethod y).before args s = true) (hsel : (Cond.selects C y y).before args s = true)
    (hcode : (Cond.codeWith y bytes maxL ret hh).before args s = true) (hy : y.cls ≠ "java/lang/invoke/MethodHandle" ∧ y.cls ≠ "java/lang/invoke/VarHandle")
    {W9 : Nat} {Pre : Pt → Array Value → Prop} {Post : Pt → Array Value → Option Value → Pt → Prop} (hK : Back l R p e below s args y 3 W9 Pre Post)
    {b : Addr} {cellB : Cell} (hcell : T.heap[b]? = some cellB) (hobj : cellB.vm.isStatics = false) (hcls : s.vm.findClass C = some cellB.cls)
    {g : JFrame} (hg : g.method = m) (hsize : g.locals.size = c.maxLocals) {argsL rest : List Value} (hlen : ∀ sig, parseMethodDescriptor y.desc = some sig → argsL.length = sig.parameters.length)
    (hstack : g.stack = argsL.reverse ++ .ref b :: rest) (hW : 2 * g.monitorRoom + (rest.map fun v => v.category).sum ≤ W9) (hdg : decode c.code g.pc = .ok (.invokevirtual index, 3))
    (hpre : ∀ vm₁, s.WarmedH vm₁ → Pre ⟨T.setVm vm₁, locs, cells, slots⟩ (Value.ref b :: argsL).toArray) :
    ∃ (v : Option Value) (vm₁ : Vm) (B : Pt), s.WarmedH vm₁ ∧ Stand p l e R s m args below meth c B.U B.locs B.cells B.slots ∧ Post ⟨T.setVm vm₁, locs, cells, slots⟩ (Value.ref b :: argsL).toArray v B ∧
      ∀ target, Steps p.tables e below (B.U.setTop { g with pc := g.pc + 3, stack := v.toList ++ rest }) target → Steps p.tables e below (T.setTop g) target := by
  obtain ⟨mk, methM, hnamed, hmethM, hstM, habM⟩ := Cond.instanceMethod_spec hinst
  obtain ⟨m8, methM', cM, hn8, hmethM', -, -, -, -, -, -, hsigM⟩ := Cond.codeWith_spec hcode
  cases Option.some.inj (hn8.symm.trans hnamed)
  cases hmethM.symm.trans hmethM'
  obtain ⟨c2, r2, m2, q1, q2, q3, q4, kP, hkP, hkPi⟩ := Cond.selects_spec hsel
  cases hcls.symm.trans q1
  cases (State.methodFound?_of_named hnamed hy).symm.trans q2
  cases hnamed.symm.trans q3
  have hselP : selectMethod e.platform s.vm cellB.cls mk = .method mk := by rw [Launch.admits_selectMethod X.admits]; exact q4
  obtain ⟨vm₁, X₁, hstep₁⟩ := X.invokevirtual hexec hown hlink hnamed hmethM hstM hkP hkPi hy (a := b) (cell := cellB) hcell
    (fun z h => by rw [h] at hobj; cases hobj) hselP hmethM habM hkP hkPi (g := g) hg (argsL := argsL) (rest := rest) (hlen _ hsigM) hstack hdg
  obtain ⟨v, B, X', hpost, hsteps⟩ := hK m meth c ⟨T.setVm vm₁, locs, cells, slots⟩ { g with stack := rest } (.invokevirtual index) mk (Value.ref b :: argsL).toArray X₁ hg hsize hdg hW (X₁.named hnamed) (hpre vm₁ X₁.warmed)
  exact ⟨v, vm₁, B, X₁.warmed, X', hpost, fun target h => hstep₁ _ fun acts => by rw [doInvoke_state]; exact hsteps.trans h⟩
abbrev vx_CVW (R : Room) (s : State) (args : Array Value) (own C : String) (index : Nat) (y : MethodName) (bytes : ByteArray) (maxL : Nat) (ret : Option FieldType) (hh : List (Nat × Nat × Nat × Nat)) (ws : List Cond) (rm : Room) (mc ms n : Nat) : Prop :=
  (rm.cells = mc ∧ rm.slots = ms ∧ rm.frames + 1 ≤ R.frames ∧ 8 + (maxL + 11) + rm.locals ≤ R.locals ∧ (∀ w ∈ ws, ∀ (a' : Array Value) (U : State), s.WarmedH U.vm → w.before a' U = true) ∧ Cond.codeWith y bytes maxL ret hh ∈ ws) ∧
  (Cond.codeWith y bytes maxL ret hh).before args s = true ∧ (Cond.initialized y.cls).before args s = true ∧ (y.cls ≠ "java/lang/invoke/MethodHandle" ∧ y.cls ≠ "java/lang/invoke/VarHandle") ∧
  (∀ sig, parseMethodDescriptor y.desc = some sig → n = sig.parameters.length) ∧ (Cond.methodLink own index y).before args s = true ∧ (Cond.instanceMethod y).before args s = true ∧ (Cond.selects C y y).before args s = true
theorem vx_cwVW {own C : String} {index maxL mc ms : Nat} {y : MethodName} {bytes : ByteArray} {ret : Option FieldType} {hh : List (Nat × Nat × Nat × Nat)} {Ts ws ws' : List Cond} {rm : Room} (n : Nat) (ht : ∀ w ∈ Ts, w.before args s = true) (hT : GoodIn Ts (wsV own index C y ws)) (hw : ws = Cond.codeWith y bytes maxL ret hh :: ws') (hrc : rm.cells = mc) (hrs : rm.slots = ms)
    (hd : y.cls = C ∧ y.cls ≠ "java/lang/invoke/MethodHandle" ∧ y.cls ≠ "java/lang/invoke/VarHandle" ∧ (parseMethodDescriptor y.desc).map (fun d => d.parameters.length) = some n) (hR : rm.frames + 1 ≤ R.frames ∧ 8 + (maxL + 11) + rm.locals ≤ R.locals) :
    vx_CVW R s args own C index y bytes maxL ret hh ws rm mc ms n := by
  obtain ⟨hC, hd⟩ := hd
  subst hC
  have ok : ∀ w ∈ wsV own index y.cls y ws, w.before args s = true := fun w h => ht w (hT w h).1
  have hG : GoodIn Ts ws := fun w h => hT w (by unfold wsV; exact List.mem_append_right _ h)
  have hc : Cond.codeWith y bytes maxL ret hh ∈ ws := by rw [hw]; exact List.mem_cons_self
  refine ⟨⟨hrc, hrs, hR.1, hR.2, pay_in ht hG, hc⟩, ht _ (hG _ hc).1, ok _ (by simp [wsV]), ⟨hd.1, hd.2.1⟩, fun sig h => ?_, ok _ (by simp [wsV]), ok _ (by simp [wsV]), ok _ (by simp [wsV])⟩
  have h2 := hd.2.2
  rw [h] at h2
  exact (Option.some.inj h2).symm
theorem vx_runVW {y : MethodName} {bytes cc : ByteArray} {maxL nL mc ms n index : Nat} {ret : Option FieldType} {hh : List (Nat × Nat × Nat × Nat)} {ws : List Cond} {rm : Room} {Pc : Array Value → State → Prop} {Qc : Array Value → State → Outcome → State → Prop} {free : Addr → Prop} {Ts : List Cond} {own C : String} {b : Addr} {As rest : List Value} {g : JFrame}
    (S : CallFix p m c cc nL s args Ts own) (hM : Met l y ws rm Pc Qc mc ms free) (cw : vx_CVW R s args own C index y bytes maxL ret hh ws rm mc ms n) (hp : PreV s H C b Pc As)
    (hg : g.method = m) (hn : As.length = n) (hsize : g.locals.size = nL) (hstack : g.stack = As.reverse ++ .ref b :: rest) (hW : 2 * g.monitorRoom + (rest.map fun v => v.category).sum ≤ 8) (hdg : decode cc g.pc = .ok (.invokevirtual index, 3)) (hf : cells + mc ≤ R.cells ∧ slots + ms ≤ R.slots) :
    va_Run p l e R s m args below meth c H locs cells slots mc ms g rest (Qc (Value.ref b :: As).toArray) free := by
  obtain ⟨⟨hrc, hrs, hfr, hlo, hws, hcw⟩, hcode, hini, hy, hlen, hl, hin, hse⟩ := cw
  have hK : Back l R p e below s args y 3 8 (PreOf R mc ms Pc) (PostOf Qc mc ms free) := va_backW (hh := hh) (bytes := bytes) (maxL := maxL) (ret := ret) hM hp.1 hrc hrs hfr hlo hws hcw (fun a' U hW => word_at hW (Or.inl (by first | rfl | simp [Cond.onTables, Cond.keeps, Cond.steady])) hini)
  obtain ⟨hx, hb, hml, ho, -⟩ := S
  obtain ⟨-, ⟨cellB, hcB, hoB, hclB⟩, hPc⟩ := hp
  intro T hT X
  obtain ⟨v, vm₁, ⟨U', l2, c2, s2⟩, hW₁, X', ⟨g', mk, t, L, e1, e2, hq, h1, hL, h2, h3⟩, st⟩ := vx_callVW X hx (C := C) (hh := hh) (bytes := bytes) (maxL := maxL) (ret := ret) ho hl hin hse hcode hy hK (by rw [hT]; exact hcB) hoB hclB hg (hsize.trans hml.symm) (argsL := As) (rest := rest) (fun sig h => hn.trans (hlen sig h)) hstack hW (by rw [hb]; exact hdg)
    (fun vm₁ hW₁ => ⟨hf.1, hf.2, hPc (T.setVm vm₁) hT hW₁⟩)
  dsimp only [Pt.U, Pt.locs, Pt.cells, Pt.slots] at X' e1 e2 h1 h2 h3 st
  subst h1; subst h2; subst h3
  exact ⟨v, (T.setVm vm₁).calling g' mk (Value.ref b :: As).toArray, t, U', L, hT, X', hL, e1, e2, hq, st⟩
section
variable {y : MethodName} {bytes cc : ByteArray} {maxL nL mc ms n index : Nat} {ret : Option FieldType} {ws : List Cond} {rm : Room} {Pc : Array Value → State → Prop} {Qc : Array Value → State → Outcome → State → Prop} {XC : String → State → State → Prop} {free : Addr → Prop} {Ts : List Cond} {own C : String} {b : Addr} {As rest : List Value} {g : JFrame}
theorem vx_runVX {hh : List (Nat × Nat × Nat × Nat)} (S : CallFix p m c cc nL s args Ts own) (hM : vx_Met l y ws rm Pc Qc XC mc ms free) (cw : vx_CVW R s args own C index y bytes maxL ret hh ws rm mc ms n) (hp : PreV s H C b Pc As)
    (hg : g.method = m) (hn : As.length = n) (hsize : g.locals.size = nL) (hstack : g.stack = As.reverse ++ .ref b :: rest) (hW : 2 * g.monitorRoom + (rest.map fun v => v.category).sum ≤ 8) (hdg : decode cc g.pc = .ok (.invokevirtual index, 3)) (hf : cells + mc ≤ R.cells ∧ slots + ms ≤ R.slots) :
    vx_Run p l e R s m args below meth c H locs cells slots mc ms g rest (Qc (Value.ref b :: As).toArray) XC free := by
  obtain ⟨⟨hrc, hrs, hfr, hlo, hws, hcw⟩, hcode, hini, hy, hlen, hl, hin, hse⟩ := cw
  have hK : vx_Back l R p e below s args y 3 8 (PreOf R mc ms Pc) (PostOf Qc mc ms free) (vx_Post XC mc ms free) := vx_backW (hh := hh) (bytes := bytes) (maxL := maxL) (ret := ret) hM hp.1 hrc hrs hfr hlo hws hcw (fun a' U hW => word_at hW (Or.inl (by first | rfl | simp [Cond.onTables, Cond.keeps, Cond.steady])) hini)
  obtain ⟨hx, hb, hml, ho, -⟩ := S
  obtain ⟨-, ⟨cellB, hcB, hoB, hclB⟩, hPc⟩ := hp
  intro T hT X
  rcases vx_callVX X hx (C := C) (hh := hh) (bytes := bytes) (maxL := maxL) (ret := ret) ho hl hin hse hcode hy hK (by rw [hT]; exact hcB) hoB hclB hg (hsize.trans hml.symm) (argsL := As) (rest := rest) (fun sig h => hn.trans (hlen sig h)) hstack hW (by rw [hb]; exact hdg)
    (fun vm₁ hW₁ => ⟨hf.1, hf.2, hPc (T.setVm vm₁) hT hW₁⟩) with ⟨v, vm₁, ⟨U', l2, c2, s2⟩, hW₁, X', ⟨g', mk, t, L, e1, e2, hq, h1, hL, h2, h3⟩, st⟩ | ⟨q, vm₁, ⟨U', l2, c2, s2⟩, hW₁, X', ⟨g', mk, t, L, E, ce, e1, e2, hq, hce, hcv, hcl, h1, hL, h2, h3⟩, st⟩
  · dsimp only [Pt.U, Pt.locs, Pt.cells, Pt.slots] at X' e1 e2 h1 h2 h3 st
    subst h1; subst h2; subst h3
    exact Or.inl ⟨v, (T.setVm vm₁).calling g' mk (Value.ref b :: As).toArray, t, U', L, hT, X', hL, e1, e2, hq, st⟩
  · dsimp only [Pt.U, Pt.locs, Pt.cells, Pt.slots] at X' e1 e2 h1 h2 h3 st hcl
    subst h1; subst h2; subst h3
    exact Or.inr ⟨q, (T.setVm vm₁).calling g' mk (Value.ref b :: As).toArray, t, U', L, E, ce, hT, X', hL, e1, e2, hq, hce, hcv, vx_cls hW₁ hcl, st⟩
theorem vx_runSX {hh : List (Nat × Nat × Nat × Nat)} (S : CallFix p m c cc nL s args Ts own) (hM : vx_Met l y ws rm Pc Qc XC mc ms free) (cw : vx_CSW R s args own index y bytes maxL ret hh ws rm mc ms n) (hp : PreS s H Pc As)
    (hg : g.method = m) (hn : As.length = n) (hsize : g.locals.size = nL) (hstack : g.stack = As.reverse ++ rest) (hW : 2 * g.monitorRoom + (rest.map fun v => v.category).sum ≤ 8) (hdg : decode cc g.pc = .ok (.invokestatic index, 3)) (hf : cells + mc ≤ R.cells ∧ slots + ms ≤ R.slots) :
    vx_Run p l e R s m args below meth c H locs cells slots mc ms g rest (Qc As.toArray) XC free := by
  obtain ⟨⟨hrc, hrs, hfr, hlo, hws, hcw⟩, hcode, hini, hy, hlen, hl, hstt⟩ := cw
  have hK : vx_Back l R p e below s args y 3 8 (PreOf R mc ms Pc) (PostOf Qc mc ms free) (vx_Post XC mc ms free) := vx_backW (hh := hh) (bytes := bytes) (maxL := maxL) (ret := ret) hM hp.1 hrc hrs hfr hlo hws hcw (fun a' U hW => word_at hW (Or.inl (by first | rfl | simp [Cond.onTables, Cond.keeps, Cond.steady])) hini)
  obtain ⟨hx, hb, hml, ho, -⟩ := S
  intro T hT X
  rcases vx_callSX X hx (hh := hh) (bytes := bytes) (maxL := maxL) (ret := ret) ho hl hstt hini hcode hy hK hg (hsize.trans hml.symm) (argsL := As) (rest := rest) (fun sig h => hn.trans (hlen sig h)) hstack hW (by rw [hb]; exact hdg)
    (fun vm₁ hW₁ => ⟨hf.1, hf.2, hp.2 (T.setVm vm₁) hT hW₁⟩) with ⟨v, vm₁, ⟨U', l2, c2, s2⟩, hW₁, X', ⟨g', mk, t, L, e1, e2, hq, h1, hL, h2, h3⟩, st⟩ | ⟨q, vm₁, ⟨U', l2, c2, s2⟩, hW₁, X', ⟨g', mk, t, L, E, ce, e1, e2, hq, hce, hcv, hcl, h1, hL, h2, h3⟩, st⟩
  · dsimp only [Pt.U, Pt.locs, Pt.cells, Pt.slots] at X' e1 e2 h1 h2 h3 st
    subst h1; subst h2; subst h3
    exact Or.inl ⟨v, (T.setVm vm₁).calling g' mk As.toArray, t, U', L, hT, X', hL, e1, e2, hq, st⟩
  · dsimp only [Pt.U, Pt.locs, Pt.cells, Pt.slots] at X' e1 e2 h1 h2 h3 st hcl
    subst h1; subst h2; subst h3
    exact Or.inr ⟨q, (T.setVm vm₁).calling g' mk As.toArray, t, U', L, E, ce, hT, X', hL, e1, e2, hq, hce, hcv, vx_cls hW₁ hcl, st⟩
end
end VXH
theorem vx_ofWH {l : Launch} {y : MethodName} {ws ws' : List Cond} {rm : Room} {Pc : Array Value → State → Prop} {Qc : Array Value → State → Outcome → State → Prop} {XC : String → State → State → Prop} {mc ms : Nat} {free : Addr → Prop} {cc : ByteArray} {maxL : Nat} {ret : Option FieldType} {hh : List (Nat × Nat × Nat × Nat)}
    (hy : plainName y.cls = true) (hw : ws = Cond.codeWith y cc maxL ret hh :: ws')
    (body : ∀ p e s m args below meth c s₁, BodyLoose p l y (headSpec ws rm) cc maxL ret e s m args below meth c s₁ → c.maxLocals = maxL → Pc args s →
      W p l e (headSpec ws rm).room s m args below meth c s.heap [] 0 0 (vx_MQ below Qc XC args s mc ms free) (entryFrame m args maxL)) : vx_Met l y ws rm Pc Qc XC mc ms free := by
  refine MetFree.of_bodyS (code := cc) (maxLocals := maxL) (ret := ret) hy ?_ ?_
  · intro args s m h hn
    obtain ⟨m9, meth, c, hn9, h1, h2, h3, h4, -, h5, h6, -⟩ := Cond.codeWith_spec (atoms_spec (ws := ws) h _ (by rw [hw]; exact List.mem_cons_self))
    cases hn.symm.trans hn9
    exact ⟨meth, c, h1, h2, h3, h4, h5, h6⟩
  · intro p e s m args below meth c s₁ B hml hP _
    have hh0 : s₁.heap = s.heap := by rw [B.state]; rfl
    obtain ⟨t, a1, o, b1, b2, b3⟩ := body p e s m args below meth c s₁ B hml hP s₁ hh0 (Stand.of_body B)
    exact ⟨t, o, a1, b1, b2, b3⟩
/-! ===== END ===== -/
end
section
/-! ===== BEGIN printed: names, fields, word lists, decode rows ===== -/
def RX0 : String := "CarrierDesk$Call"
def TX0 : u_T := fun k => match k with
  | 0 => ("CarrierDesk$Call", "id", "I", true)
  | 1 => ("CarrierDesk$Call", "number", "I", true)
  | 2 => ("CarrierDesk$Call", "firstBegin", "I", true)
  | 3 => ("CarrierDesk$Call", "firstSeconds", "I", true)
  | 4 => ("CarrierDesk$Call", "sourceBits", "I", false)
  | 5 => ("CarrierDesk$Call", "seconds", "I", false)
  | 6 => ("CarrierDesk$Call", "bookedAmount", "I", false)
  | _ => ("CarrierDesk$Call", "claimed", "I", false)
def tyX0 : Nat → FieldType := fun k => match k with
  | 0 => .int
  | 1 => .int
  | 2 => .int
  | 3 => .int
  | 4 => .int
  | 5 => .int
  | 6 => .int
  | _ => .int
abbrev wsX00 : List Cond := u_ws RX0 TX0 8
theorem nmX0 : ∀ a, a < 8 → ∀ b, b < 8 → a ≠ b → (TX0 a).2.1 ≠ (TX0 b).2.1 := by decide +kernel
theorem tyX0_ok : ∀ k, k < 8 → parseFieldDescriptor (TX0 k).2.2.1 = some (tyX0 k) := by decide +kernel
abbrev cX0_init : ByteArray := prog_2_method_1_code
def yX0_init : MethodName := ⟨RX0, "<init>", "(IIII)V"⟩
abbrev cX0_hasLegFrom : ByteArray := prog_2_method_2_code
def yX0_hasLegFrom : MethodName := ⟨RX0, "hasLegFrom", "(I)Z"⟩
abbrev cX0_beganWithin : ByteArray := prog_2_method_3_code
def yX0_beganWithin : MethodName := ⟨RX0, "beganWithin", "(III)Z"⟩
abbrev cX0_addLeg : ByteArray := prog_2_method_4_code
def yX0_addLeg : MethodName := ⟨RX0, "addLeg", "(II)V"⟩
abbrev cX0_day : ByteArray := prog_2_method_5_code
def yX0_day : MethodName := ⟨RX0, "day", "()I"⟩
abbrev cX0_isBooked : ByteArray := prog_2_method_6_code
def yX0_isBooked : MethodName := ⟨RX0, "isBooked", "()Z"⟩
abbrev cX0_bookedOrZero : ByteArray := prog_2_method_7_code
def yX0_bookedOrZero : MethodName := ⟨RX0, "bookedOrZero", "()I"⟩
abbrev cX0_disputed : ByteArray := prog_2_method_8_code
def yX0_disputed : MethodName := ⟨RX0, "disputed", "()I"⟩
def RX1 : String := "CarrierDesk$Carrier"
def TX1 : u_T := fun k => match k with
  | 0 => ("CarrierDesk$Carrier", "prefixes", "[I", true)
  | _ => ("CarrierDesk$Carrier", "prices", "[I", true)
def tyX1 : Nat → FieldType := fun k => match k with
  | 0 => .array .int
  | _ => .array .int
abbrev wsX10 : List Cond := u_ws RX1 TX1 2
theorem nmX1 : ∀ a, a < 2 → ∀ b, b < 2 → a ≠ b → (TX1 a).2.1 ≠ (TX1 b).2.1 := by decide +kernel
theorem tyX1_ok : ∀ k, k < 2 → parseFieldDescriptor (TX1 k).2.2.1 = some (tyX1 k) := by decide +kernel
abbrev cX1_init : ByteArray := prog_3_method_1_code
def yX1_init : MethodName := ⟨RX1, "<init>", "()V"⟩
abbrev cX1_hasPlaceFor : ByteArray := prog_3_method_2_code
def yX1_hasPlaceFor : MethodName := ⟨RX1, "hasPlaceFor", "(I)Z"⟩
abbrev cX1_replacePrice : ByteArray := prog_3_method_3_code
def yX1_replacePrice : MethodName := ⟨RX1, "replacePrice", "(II)I"⟩
abbrev cX1_priceFor : ByteArray := prog_3_method_4_code
def yX1_priceFor : MethodName := ⟨RX1, "priceFor", "(I)I"⟩
abbrev cX1_placeOf : ByteArray := prog_3_method_5_code
def yX1_placeOf : MethodName := ⟨RX1, "placeOf", "(I)I"⟩
def RX2 : String := "CarrierDesk$Rate"
def TX2 : u_T := fun k => match k with
  | 0 => ("CarrierDesk$Rate", "id", "I", true)
  | 1 => ("CarrierDesk$Rate", "prefix", "I", true)
  | 2 => ("CarrierDesk$Rate", "day", "I", true)
  | 3 => ("CarrierDesk$Rate", "price", "I", true)
  | 4 => ("CarrierDesk$Rate", "step", "I", true)
  | 5 => ("CarrierDesk$Rate", "least", "I", true)
  | _ => ("CarrierDesk$Rate", "fee", "I", true)
def tyX2 : Nat → FieldType := fun k => match k with
  | 0 => .int
  | 1 => .int
  | 2 => .int
  | 3 => .int
  | 4 => .int
  | 5 => .int
  | _ => .int
abbrev wsX20 : List Cond := u_ws RX2 TX2 7
theorem nmX2 : ∀ a, a < 7 → ∀ b, b < 7 → a ≠ b → (TX2 a).2.1 ≠ (TX2 b).2.1 := by decide +kernel
theorem tyX2_ok : ∀ k, k < 7 → parseFieldDescriptor (TX2 k).2.2.1 = some (tyX2 k) := by decide +kernel
abbrev cX2_init : ByteArray := prog_4_method_1_code
def yX2_init : MethodName := ⟨RX2, "<init>", "(IIIIIII)V"⟩
abbrev cX2_goesBefore : ByteArray := prog_4_method_2_code
def yX2_goesBefore : MethodName := ⟨RX2, "goesBefore", "(LCarrierDesk$Rate;)Z"⟩
abbrev cX2_chargeFor : ByteArray := prog_4_method_3_code
def yX2_chargeFor : MethodName := ⟨RX2, "chargeFor", "(I)I"⟩
abbrev cX2_quotientUp : ByteArray := prog_4_method_4_code
def yX2_quotientUp : MethodName := ⟨RX2, "quotientUp", "(II)I"⟩
def RX3 : String := "CarrierDesk$Source"
def TX3 : u_T := fun k => match k with
  | 0 => ("CarrierDesk$Source", "delivered", "[J", true)
  | 1 => ("CarrierDesk$Source", "deliveredCount", "I", false)
  | 2 => ("CarrierDesk$Source", "least", "I", false)
  | 3 => ("CarrierDesk$Source", "greatest", "I", false)
  | _ => ("CarrierDesk$Source", "doubleCount", "I", false)
def tyX3 : Nat → FieldType := fun k => match k with
  | 0 => .array .long
  | 1 => .int
  | 2 => .int
  | 3 => .int
  | _ => .int
abbrev wsX30 : List Cond := u_ws RX3 TX3 5
theorem nmX3 : ∀ a, a < 5 → ∀ b, b < 5 → a ≠ b → (TX3 a).2.1 ≠ (TX3 b).2.1 := by decide +kernel
theorem tyX3_ok : ∀ k, k < 5 → parseFieldDescriptor (TX3 k).2.2.1 = some (tyX3 k) := by decide +kernel
abbrev cX3_init : ByteArray := prog_5_method_1_code
def yX3_init : MethodName := ⟨RX3, "<init>", "()V"⟩
abbrev cX3_has : ByteArray := prog_5_method_2_code
def yX3_has : MethodName := ⟨RX3, "has", "(I)Z"⟩
abbrev cX3_add : ByteArray := prog_5_method_3_code
def yX3_add : MethodName := ⟨RX3, "add", "(I)V"⟩
abbrev cX3_missing : ByteArray := prog_5_method_4_code
def yX3_missing : MethodName := ⟨RX3, "missing", "()I"⟩
abbrev cX3_bitOf : ByteArray := prog_5_method_5_code
def yX3_bitOf : MethodName := ⟨RX3, "bitOf", "(I)J"⟩
def RX4 : String := "CarrierDesk"
def TX4 : u_T := fun k => match k with
  | 0 => ("CarrierDesk", "sources", "[LCarrierDesk$Source;", true)
  | 1 => ("CarrierDesk", "calls", "[LCarrierDesk$Call;", true)
  | 2 => ("CarrierDesk", "callCount", "I", false)
  | 3 => ("CarrierDesk", "bound", "I", false)
  | 4 => ("CarrierDesk", "rates", "[LCarrierDesk$Rate;", true)
  | 5 => ("CarrierDesk", "rateCount", "I", false)
  | 6 => ("CarrierDesk", "changedBookings", "I", false)
  | _ => ("CarrierDesk", "carriers", "[LCarrierDesk$Carrier;", true)
def tyX4 : Nat → FieldType := fun k => match k with
  | 0 => .array (.object "CarrierDesk$Source")
  | 1 => .array (.object "CarrierDesk$Call")
  | 2 => .int
  | 3 => .int
  | 4 => .array (.object "CarrierDesk$Rate")
  | 5 => .int
  | 6 => .int
  | _ => .array (.object "CarrierDesk$Carrier")
abbrev wsX40 : List Cond := u_ws RX4 TX4 8
theorem nmX4 : ∀ a, a < 8 → ∀ b, b < 8 → a ≠ b → (TX4 a).2.1 ≠ (TX4 b).2.1 := by decide +kernel
theorem tyX4_ok : ∀ k, k < 8 → parseFieldDescriptor (TX4 k).2.2.1 = some (tyX4 k) := by decide +kernel
abbrev cX4_init : ByteArray := prog_1_method_1_code
def yX4_init : MethodName := ⟨RX4, "<init>", "()V"⟩
abbrev cX4_setBound : ByteArray := prog_1_method_2_code
def yX4_setBound : MethodName := ⟨RX4, "setBound", "(I)I"⟩
abbrev cX4_record : ByteArray := prog_1_method_3_code
def yX4_record : MethodName := ⟨RX4, "record", "(IIIII)I"⟩
abbrev cX4_gaps : ByteArray := prog_1_method_4_code
def yX4_gaps : MethodName := ⟨RX4, "gaps", "(I)I"⟩
abbrev cX4_doubles : ByteArray := prog_1_method_5_code
def yX4_doubles : MethodName := ⟨RX4, "doubles", "(I)I"⟩
abbrev cX4_calls : ByteArray := prog_1_method_6_code
def yX4_calls : MethodName := ⟨RX4, "calls", "()I"⟩
abbrev cX4_legs : ByteArray := prog_1_method_7_code
def yX4_legs : MethodName := ⟨RX4, "legs", "(I)I"⟩
abbrev cX4_length : ByteArray := prog_1_method_8_code
def yX4_length : MethodName := ⟨RX4, "length", "(I)I"⟩
abbrev cX4_addRate : ByteArray := prog_1_method_9_code
def yX4_addRate : MethodName := ⟨RX4, "addRate", "(IIIIII)I"⟩
abbrev cX4_rateFor : ByteArray := prog_1_method_10_code
def yX4_rateFor : MethodName := ⟨RX4, "rateFor", "(II)I"⟩
abbrev cX4_charge : ByteArray := prog_1_method_11_code
def yX4_charge : MethodName := ⟨RX4, "charge", "(I)I"⟩
abbrev cX4_book : ByteArray := prog_1_method_12_code
def yX4_book : MethodName := ⟨RX4, "book", "()I"⟩
abbrev cX4_booked : ByteArray := prog_1_method_13_code
def yX4_booked : MethodName := ⟨RX4, "booked", "(I)I"⟩
abbrev cX4_correct : ByteArray := prog_1_method_14_code
def yX4_correct : MethodName := ⟨RX4, "correct", "()I"⟩
abbrev cX4_corrections : ByteArray := prog_1_method_15_code
def yX4_corrections : MethodName := ⟨RX4, "corrections", "()I"⟩
abbrev cX4_total : ByteArray := prog_1_method_16_code
def yX4_total : MethodName := ⟨RX4, "total", "(I)I"⟩
abbrev cX4_offer : ByteArray := prog_1_method_17_code
def yX4_offer : MethodName := ⟨RX4, "offer", "(III)I"⟩
abbrev cX4_offerFor : ByteArray := prog_1_method_18_code
def yX4_offerFor : MethodName := ⟨RX4, "offerFor", "(II)I"⟩
abbrev cX4_route : ByteArray := prog_1_method_19_code
def yX4_route : MethodName := ⟨RX4, "route", "(IIII)I"⟩
abbrev cX4_claim : ByteArray := prog_1_method_20_code
def yX4_claim : MethodName := ⟨RX4, "claim", "(II)I"⟩
abbrev cX4_difference : ByteArray := prog_1_method_21_code
def yX4_difference : MethodName := ⟨RX4, "difference", "(I)I"⟩
abbrev cX4_narrow : ByteArray := prog_1_method_22_code
def yX4_narrow : MethodName := ⟨RX4, "narrow", "(I)I"⟩
abbrev cX4_worst : ByteArray := prog_1_method_23_code
def yX4_worst : MethodName := ⟨RX4, "worst", "()I"⟩
abbrev cX4_within : ByteArray := prog_1_method_24_code
def yX4_within : MethodName := ⟨RX4, "within", "(III)Z"⟩
abbrev cX4_isNumber : ByteArray := prog_1_method_25_code
def yX4_isNumber : MethodName := ⟨RX4, "isNumber", "(I)Z"⟩
abbrev cX4_isPrefix : ByteArray := prog_1_method_26_code
def yX4_isPrefix : MethodName := ⟨RX4, "isPrefix", "(I)Z"⟩
abbrev cX4_isDay : ByteArray := prog_1_method_27_code
def yX4_isDay : MethodName := ⟨RX4, "isDay", "(I)Z"⟩
abbrev cX4_fits : ByteArray := prog_1_method_28_code
def yX4_fits : MethodName := ⟨RX4, "fits", "(II)Z"⟩
abbrev cX4_sourceAt : ByteArray := prog_1_method_29_code
def yX4_sourceAt : MethodName := ⟨RX4, "sourceAt", "(I)LCarrierDesk$Source;"⟩
abbrev cX4_callAt : ByteArray := prog_1_method_30_code
def yX4_callAt : MethodName := ⟨RX4, "callAt", "(I)LCarrierDesk$Call;"⟩
abbrev cX4_carrierAt : ByteArray := prog_1_method_31_code
def yX4_carrierAt : MethodName := ⟨RX4, "carrierAt", "(I)LCarrierDesk$Carrier;"⟩
abbrev cX4_callJoinedBy : ByteArray := prog_1_method_32_code
def yX4_callJoinedBy : MethodName := ⟨RX4, "callJoinedBy", "(IIII)LCarrierDesk$Call;"⟩
abbrev cX4_newCall : ByteArray := prog_1_method_33_code
def yX4_newCall : MethodName := ⟨RX4, "newCall", "(III)LCarrierDesk$Call;"⟩
abbrev cX4_rateInForce : ByteArray := prog_1_method_34_code
def yX4_rateInForce : MethodName := ⟨RX4, "rateInForce", "(II)LCarrierDesk$Rate;"⟩
abbrev cX4_chargeNow : ByteArray := prog_1_method_35_code
def yX4_chargeNow : MethodName := ⟨RX4, "chargeNow", "(LCarrierDesk$Call;)I"⟩
abbrev cX4_changeByCorrecting : ByteArray := prog_1_method_36_code
def yX4_changeByCorrecting : MethodName := ⟨RX4, "changeByCorrecting", "(LCarrierDesk$Call;)I"⟩
abbrev cX4_carrierOfRank : ByteArray := prog_1_method_37_code
def yX4_carrierOfRank : MethodName := ⟨RX4, "carrierOfRank", "(III)I"⟩
abbrev cX4_carriersBefore : ByteArray := prog_1_method_38_code
def yX4_carriersBefore : MethodName := ⟨RX4, "carriersBefore", "(III)I"⟩
abbrev cX4_priceOf : ByteArray := prog_1_method_39_code
def yX4_priceOf : MethodName := ⟨RX4, "priceOf", "(II)I"⟩
abbrev cX4_differenceUnder : ByteArray := prog_1_method_40_code
def yX4_differenceUnder : MethodName := ⟨RX4, "differenceUnder", "(I)I"⟩
abbrev cX4_withWorstDigit : ByteArray := prog_1_method_41_code
def yX4_withWorstDigit : MethodName := ⟨RX4, "withWorstDigit", "(I)I"⟩
def RX5 : String := "CarrierDeskModel"
def TX5 : u_T := fun k => match k with
  | 0 => ("CarrierDeskModel", "bound", "I", false)
  | 1 => ("CarrierDeskModel", "delivered", "[J", true)
  | 2 => ("CarrierDeskModel", "many", "[I", true)
  | 3 => ("CarrierDeskModel", "least", "[I", true)
  | 4 => ("CarrierDeskModel", "most", "[I", true)
  | 5 => ("CarrierDeskModel", "doubles", "[I", true)
  | 6 => ("CarrierDeskModel", "calls", "I", false)
  | 7 => ("CarrierDeskModel", "number", "[I", true)
  | 8 => ("CarrierDeskModel", "begin", "[I", true)
  | 9 => ("CarrierDeskModel", "first", "[I", true)
  | 10 => ("CarrierDeskModel", "length", "[I", true)
  | 11 => ("CarrierDeskModel", "legs", "[I", true)
  | 12 => ("CarrierDeskModel", "booked", "[I", true)
  | 13 => ("CarrierDeskModel", "claim", "[I", true)
  | 14 => ("CarrierDeskModel", "corrections", "I", false)
  | 15 => ("CarrierDeskModel", "rates", "I", false)
  | 16 => ("CarrierDeskModel", "prefix", "[I", true)
  | 17 => ("CarrierDeskModel", "day", "[I", true)
  | 18 => ("CarrierDeskModel", "price", "[I", true)
  | 19 => ("CarrierDeskModel", "step", "[I", true)
  | 20 => ("CarrierDeskModel", "shortest", "[I", true)
  | 21 => ("CarrierDeskModel", "fee", "[I", true)
  | 22 => ("CarrierDeskModel", "offers", "[I", true)
  | 23 => ("CarrierDeskModel", "offered", "[I", true)
  | 24 => ("CarrierDeskModel", "asked", "[I", true)
  | _ => ("CarrierDeskModel", "thrown", "I", false)
def tyX5 : Nat → FieldType := fun k => match k with
  | 0 => .int
  | 1 => .array .long
  | 2 => .array .int
  | 3 => .array .int
  | 4 => .array .int
  | 5 => .array .int
  | 6 => .int
  | 7 => .array .int
  | 8 => .array .int
  | 9 => .array .int
  | 10 => .array .int
  | 11 => .array .int
  | 12 => .array .int
  | 13 => .array .int
  | 14 => .int
  | 15 => .int
  | 16 => .array .int
  | 17 => .array .int
  | 18 => .array .int
  | 19 => .array .int
  | 20 => .array .int
  | 21 => .array .int
  | 22 => .array .int
  | 23 => .array .int
  | 24 => .array .int
  | _ => .int
abbrev wsX50 : List Cond := u_ws RX5 TX5 26
theorem nmX5 : ∀ a, a < 26 → ∀ b, b < 26 → a ≠ b → (TX5 a).2.1 ≠ (TX5 b).2.1 := by decide +kernel
theorem tyX5_ok : ∀ k, k < 26 → parseFieldDescriptor (TX5 k).2.2.1 = some (tyX5 k) := by decide +kernel
abbrev cX5_init : ByteArray := prog_7_method_1_code
def yX5_init : MethodName := ⟨RX5, "<init>", "()V"⟩
abbrev cX5_thrown : ByteArray := prog_7_method_2_code
def yX5_thrown : MethodName := ⟨RX5, "thrown", "()I"⟩
abbrev cX5_fails : ByteArray := prog_7_method_3_code
def yX5_fails : MethodName := ⟨RX5, "fails", "(I)I"⟩
abbrev cX5_asks : ByteArray := prog_7_method_4_code
def yX5_asks : MethodName := ⟨RX5, "asks", "(Z)Z"⟩
abbrev cX5_in : ByteArray := prog_7_method_5_code
def yX5_in : MethodName := ⟨RX5, "in", "(III)Z"⟩
abbrev cX5_isNumber : ByteArray := prog_7_method_6_code
def yX5_isNumber : MethodName := ⟨RX5, "isNumber", "(I)Z"⟩
abbrev cX5_isPrefix : ByteArray := prog_7_method_7_code
def yX5_isPrefix : MethodName := ⟨RX5, "isPrefix", "(I)Z"⟩
abbrev cX5_fits : ByteArray := prog_7_method_8_code
def yX5_fits : MethodName := ⟨RX5, "fits", "(II)Z"⟩
abbrev cX5_apart : ByteArray := prog_7_method_9_code
def yX5_apart : MethodName := ⟨RX5, "apart", "(II)I"⟩
abbrev cX5_setBound : ByteArray := prog_7_method_10_code
def yX5_setBound : MethodName := ⟨RX5, "setBound", "(I)I"⟩
abbrev cX5_joined : ByteArray := prog_7_method_11_code
def yX5_joined : MethodName := ⟨RX5, "joined", "(IIII)I"⟩
abbrev cX5_record : ByteArray := prog_7_method_12_code
def yX5_record : MethodName := ⟨RX5, "record", "(IIIII)I"⟩
abbrev cX5_gaps : ByteArray := prog_7_method_13_code
def yX5_gaps : MethodName := ⟨RX5, "gaps", "(I)I"⟩
abbrev cX5_doubles : ByteArray := prog_7_method_14_code
def yX5_doubles : MethodName := ⟨RX5, "doubles", "(I)I"⟩
abbrev cX5_calls : ByteArray := prog_7_method_15_code
def yX5_calls : MethodName := ⟨RX5, "calls", "()I"⟩
abbrev cX5_isCall : ByteArray := prog_7_method_16_code
def yX5_isCall : MethodName := ⟨RX5, "isCall", "(I)Z"⟩
abbrev cX5_legs : ByteArray := prog_7_method_17_code
def yX5_legs : MethodName := ⟨RX5, "legs", "(I)I"⟩
abbrev cX5_length : ByteArray := prog_7_method_18_code
def yX5_length : MethodName := ⟨RX5, "length", "(I)I"⟩
abbrev cX5_addRate : ByteArray := prog_7_method_19_code
def yX5_addRate : MethodName := ⟨RX5, "addRate", "(IIIIII)I"⟩
abbrev cX5_rate : ByteArray := prog_7_method_20_code
def yX5_rate : MethodName := ⟨RX5, "rate", "(II)I"⟩
abbrev cX5_rateFor : ByteArray := prog_7_method_21_code
def yX5_rateFor : MethodName := ⟨RX5, "rateFor", "(II)I"⟩
abbrev cX5_chargeOf : ByteArray := prog_7_method_22_code
def yX5_chargeOf : MethodName := ⟨RX5, "chargeOf", "(I)I"⟩
abbrev cX5_charge : ByteArray := prog_7_method_23_code
def yX5_charge : MethodName := ⟨RX5, "charge", "(I)I"⟩
abbrev cX5_book : ByteArray := prog_7_method_24_code
def yX5_book : MethodName := ⟨RX5, "book", "()I"⟩
abbrev cX5_booked : ByteArray := prog_7_method_25_code
def yX5_booked : MethodName := ⟨RX5, "booked", "(I)I"⟩
abbrev cX5_correct : ByteArray := prog_7_method_26_code
def yX5_correct : MethodName := ⟨RX5, "correct", "()I"⟩
abbrev cX5_corrections : ByteArray := prog_7_method_27_code
def yX5_corrections : MethodName := ⟨RX5, "corrections", "()I"⟩
abbrev cX5_bookedOf : ByteArray := prog_7_method_28_code
def yX5_bookedOf : MethodName := ⟨RX5, "bookedOf", "(I)I"⟩
abbrev cX5_total : ByteArray := prog_7_method_29_code
def yX5_total : MethodName := ⟨RX5, "total", "(I)I"⟩
abbrev cX5_offer : ByteArray := prog_7_method_30_code
def yX5_offer : MethodName := ⟨RX5, "offer", "(III)I"⟩
abbrev cX5_offerOf : ByteArray := prog_7_method_31_code
def yX5_offerOf : MethodName := ⟨RX5, "offerOf", "(II)I"⟩
abbrev cX5_offerFor : ByteArray := prog_7_method_32_code
def yX5_offerFor : MethodName := ⟨RX5, "offerFor", "(II)I"⟩
abbrev cX5_route : ByteArray := prog_7_method_33_code
def yX5_route : MethodName := ⟨RX5, "route", "(IIII)I"⟩
abbrev cX5_claim : ByteArray := prog_7_method_34_code
def yX5_claim : MethodName := ⟨RX5, "claim", "(II)I"⟩
abbrev cX5_differs : ByteArray := prog_7_method_35_code
def yX5_differs : MethodName := ⟨RX5, "differs", "(I)I"⟩
abbrev cX5_difference : ByteArray := prog_7_method_36_code
def yX5_difference : MethodName := ⟨RX5, "difference", "(I)I"⟩
abbrev cX5_narrow : ByteArray := prog_7_method_37_code
def yX5_narrow : MethodName := ⟨RX5, "narrow", "(I)I"⟩
abbrev cX5_worst : ByteArray := prog_7_method_38_code
def yX5_worst : MethodName := ⟨RX5, "worst", "()I"⟩
def RJx145de : String := "java/io/Serializable"
def TJx145de : u_T := fun k => match k with
  | _ => ("", "", "", false)
def tyJx145de : Nat → FieldType := fun k => match k with
  | _ => .int
abbrev wsJx145de0 : List Cond := u_ws RJx145de TJx145de 0
theorem nmJx145de : ∀ a, a < 0 → ∀ b, b < 0 → a ≠ b → (TJx145de a).2.1 ≠ (TJx145de b).2.1 := by decide +kernel
theorem tyJx145de_ok : ∀ k, k < 0 → parseFieldDescriptor (TJx145de k).2.2.1 = some (tyJx145de k) := by decide +kernel
def RJ9 : String := "java/lang/Math"
def TJ9 : u_T := fun k => match k with
  | _ => ("", "", "", false)
def tyJ9 : Nat → FieldType := fun k => match k with
  | _ => .int
abbrev wsJ90 : List Cond := u_ws RJ9 TJ9 0
theorem nmJ9 : ∀ a, a < 0 → ∀ b, b < 0 → a ≠ b → (TJ9 a).2.1 ≠ (TJ9 b).2.1 := by decide +kernel
theorem tyJ9_ok : ∀ k, k < 0 → parseFieldDescriptor (TJ9 k).2.2.1 = some (tyJ9 k) := by decide +kernel
abbrev cJ9_abs_0f7a4 : ByteArray := prog_13_method_59_code
def yJ9_abs_0f7a4 : MethodName := ⟨RJ9, "abs", "(I)I"⟩
abbrev cJ9_max_7cf53 : ByteArray := prog_13_method_65_code
def yJ9_max_7cf53 : MethodName := ⟨RJ9, "max", "(II)I"⟩
abbrev cJ9_min_7cf53 : ByteArray := prog_13_method_69_code
def yJ9_min_7cf53 : MethodName := ⟨RJ9, "min", "(II)I"⟩
def RJ0 : String := "java/lang/String"
def TJ0 : u_T := fun k => match k with
  | _ => ("", "", "", false)
def tyJ0 : Nat → FieldType := fun k => match k with
  | _ => .int
abbrev wsJ00 : List Cond := u_ws RJ0 TJ0 0
theorem nmJ0 : ∀ a, a < 0 → ∀ b, b < 0 → a ≠ b → (TJ0 a).2.1 ≠ (TJ0 b).2.1 := by decide +kernel
theorem tyJ0_ok : ∀ k, k < 0 → parseFieldDescriptor (TJ0 k).2.2.1 = some (tyJ0 k) := by decide +kernel
def RL : String := "CarrierDeskLaw"
abbrev cL_setBound : ByteArray := method_3_code
def yL_setBound : MethodName := ⟨RL, "setBound", "(LCarrierDesk;I[J)I"⟩
abbrev cL_record : ByteArray := method_4_code
def yL_record : MethodName := ⟨RL, "record", "(LCarrierDesk;IIIII[J)I"⟩
abbrev cL_gaps : ByteArray := method_5_code
def yL_gaps : MethodName := ⟨RL, "gaps", "(LCarrierDesk;I[J)I"⟩
abbrev cL_doubles : ByteArray := method_6_code
def yL_doubles : MethodName := ⟨RL, "doubles", "(LCarrierDesk;I[J)I"⟩
abbrev cL_legs : ByteArray := method_7_code
def yL_legs : MethodName := ⟨RL, "legs", "(LCarrierDesk;I[J)I"⟩
abbrev cL_length : ByteArray := method_8_code
def yL_length : MethodName := ⟨RL, "length", "(LCarrierDesk;I[J)I"⟩
abbrev cL_addRate : ByteArray := method_9_code
def yL_addRate : MethodName := ⟨RL, "addRate", "(LCarrierDesk;IIIIII[J)I"⟩
abbrev cL_rateFor : ByteArray := method_10_code
def yL_rateFor : MethodName := ⟨RL, "rateFor", "(LCarrierDesk;II[J)I"⟩
abbrev cL_charge : ByteArray := method_11_code
def yL_charge : MethodName := ⟨RL, "charge", "(LCarrierDesk;I[J)I"⟩
abbrev cL_booked : ByteArray := method_12_code
def yL_booked : MethodName := ⟨RL, "booked", "(LCarrierDesk;I[J)I"⟩
abbrev cL_total : ByteArray := method_13_code
def yL_total : MethodName := ⟨RL, "total", "(LCarrierDesk;I[J)I"⟩
abbrev cL_offer : ByteArray := method_14_code
def yL_offer : MethodName := ⟨RL, "offer", "(LCarrierDesk;III[J)I"⟩
abbrev cL_offerFor : ByteArray := method_15_code
def yL_offerFor : MethodName := ⟨RL, "offerFor", "(LCarrierDesk;II[J)I"⟩
abbrev cL_route : ByteArray := method_16_code
def yL_route : MethodName := ⟨RL, "route", "(LCarrierDesk;IIII[J)I"⟩
abbrev cL_claim : ByteArray := method_17_code
def yL_claim : MethodName := ⟨RL, "claim", "(LCarrierDesk;II[J)I"⟩
abbrev cL_difference : ByteArray := method_18_code
def yL_difference : MethodName := ⟨RL, "difference", "(LCarrierDesk;I[J)I"⟩
abbrev cL_narrow : ByteArray := method_19_code
def yL_narrow : MethodName := ⟨RL, "narrow", "(LCarrierDesk;I[J)I"⟩
abbrev cL_worst : ByteArray := method_20_code
def yL_worst : MethodName := ⟨RL, "worst", "(LCarrierDesk;[J)I"⟩
abbrev cL_law : ByteArray := code
def yL_law : MethodName := ⟨RL, "law", "([I)Z"⟩
def wsX0_init : List Cond := .code yX0_init cX0_init 5 none :: ([.methodLink RX0 3 objectInit, .instanceMethod objectInit, .code objectInit ⟨#[0xb1]⟩ 1 none, .fieldLink RX0 9 "CarrierDesk$Call" "bookedAmount" "I", .fieldLink RX0 15 "CarrierDesk$Call" "id" "I", .fieldLink RX0 18 "CarrierDesk$Call" "number" "I", .fieldLink RX0 21 "CarrierDesk$Call" "firstBegin" "I", .fieldLink RX0 24 "CarrierDesk$Call" "firstSeconds" "I"] ++ wsX00)
def wsX0_hasLegFrom : List Cond := .code yX0_hasLegFrom cX0_hasLegFrom 2 (some .boolean) :: ([.fieldLink RX0 27 "CarrierDesk$Call" "sourceBits" "I"] ++ wsX00)
def wsX0_beganWithin : List Cond := .code yX0_beganWithin cX0_beganWithin 4 (some .boolean) :: ([.fieldLink RX0 21 "CarrierDesk$Call" "firstBegin" "I", .methodLink RX0 30 Lib.Math.abs.name, .static Lib.Math.abs.name, .initialized "java/lang/Math", .code Lib.Math.abs.name Lib.Math.abs.code 1 (some .int), .fieldLink RX0 24 "CarrierDesk$Call" "firstSeconds" "I"] ++ wsX00)
def wsX0_addLeg : List Cond := .code yX0_addLeg cX0_addLeg 3 none :: ([.fieldLink RX0 27 "CarrierDesk$Call" "sourceBits" "I", .fieldLink RX0 36 "CarrierDesk$Call" "seconds" "I", .methodLink RX0 39 Lib.Math.max.name, .static Lib.Math.max.name, .initialized "java/lang/Math", .code Lib.Math.max.name Lib.Math.max.code 2 (some .int)] ++ wsX00)
def wsX0_day : List Cond := .code yX0_day cX0_day 1 (some .int) :: ([.fieldLink RX0 21 "CarrierDesk$Call" "firstBegin" "I"] ++ wsX00)
def wsX0_isBooked : List Cond := .code yX0_isBooked cX0_isBooked 1 (some .boolean) :: ([.fieldLink RX0 9 "CarrierDesk$Call" "bookedAmount" "I"] ++ wsX00)
def wsX0_bookedOrZero : List Cond := .code yX0_bookedOrZero cX0_bookedOrZero 1 (some .int) :: ([.fieldLink RX0 9 "CarrierDesk$Call" "bookedAmount" "I", .methodLink RX0 43 yX0_isBooked, .instanceMethod yX0_isBooked, .selects RX0 yX0_isBooked yX0_isBooked, .initialized RX0, .code yX0_isBooked cX0_isBooked 1 (some .boolean)] ++ wsX00)
def wsX0_disputed : List Cond := .code yX0_disputed cX0_disputed 1 (some .int) :: ([.fieldLink RX0 47 "CarrierDesk$Call" "claimed" "I", .methodLink RX0 50 yX0_bookedOrZero, .instanceMethod yX0_bookedOrZero, .selects RX0 yX0_bookedOrZero yX0_bookedOrZero, .initialized RX0, .code yX0_bookedOrZero cX0_bookedOrZero 1 (some .int), .fieldLink RX0 9 "CarrierDesk$Call" "bookedAmount" "I", .methodLink RX0 43 yX0_isBooked, .instanceMethod yX0_isBooked, .selects RX0 yX0_isBooked yX0_isBooked, .code yX0_isBooked cX0_isBooked 1 (some .boolean)] ++ wsX00)
def wsX1_init : List Cond := .code yX1_init cX1_init 1 none :: ([.methodLink RX1 3 objectInit, .instanceMethod objectInit, .code objectInit ⟨#[0xb1]⟩ 1 none, .arrayClass .int, .fieldLink RX1 9 "CarrierDesk$Carrier" "prefixes" "[I", .fieldLink RX1 15 "CarrierDesk$Carrier" "prices" "[I"] ++ wsX10)
def wsX1_placeOf : List Cond := .code yX1_placeOf cX1_placeOf 3 (some .int) :: ([.fieldLink RX1 9 "CarrierDesk$Carrier" "prefixes" "[I"] ++ wsX10)
def wsX1_hasPlaceFor : List Cond := .code yX1_hasPlaceFor cX1_hasPlaceFor 2 (some .boolean) :: ([.methodLink RX1 18 yX1_placeOf, .instanceMethod yX1_placeOf, .selects RX1 yX1_placeOf yX1_placeOf, .initialized RX1, .code yX1_placeOf cX1_placeOf 3 (some .int), .fieldLink RX1 9 "CarrierDesk$Carrier" "prefixes" "[I"] ++ wsX10)
def wsX1_replacePrice : List Cond := .code yX1_replacePrice cX1_replacePrice 5 (some .int) :: ([.fieldLink RX1 15 "CarrierDesk$Carrier" "prices" "[I", .fieldLink RX1 9 "CarrierDesk$Carrier" "prefixes" "[I", .methodLink RX1 18 yX1_placeOf, .instanceMethod yX1_placeOf, .selects RX1 yX1_placeOf yX1_placeOf, .initialized RX1, .code yX1_placeOf cX1_placeOf 3 (some .int)] ++ wsX10)
def wsX4_fits : List Cond := .code yX4_fits cX4_fits 4 (some .boolean) :: ([])
def wsX1_priceFor : List Cond := .code yX1_priceFor cX1_priceFor 5 (some .int) :: ([.fieldLink RX1 9 "CarrierDesk$Carrier" "prefixes" "[I", .fieldLink RX1 15 "CarrierDesk$Carrier" "prices" "[I", .static yX4_fits, .initialized RX4, .code yX4_fits cX4_fits 4 (some .boolean)] ++ wsX10)
def wsX2_init : List Cond := .code yX2_init cX2_init 8 none :: ([.methodLink RX2 3 objectInit, .instanceMethod objectInit, .code objectInit ⟨#[0xb1]⟩ 1 none, .fieldLink RX2 9 "CarrierDesk$Rate" "id" "I", .fieldLink RX2 15 "CarrierDesk$Rate" "prefix" "I", .fieldLink RX2 18 "CarrierDesk$Rate" "day" "I", .fieldLink RX2 21 "CarrierDesk$Rate" "price" "I", .fieldLink RX2 24 "CarrierDesk$Rate" "step" "I", .fieldLink RX2 27 "CarrierDesk$Rate" "least" "I", .fieldLink RX2 30 "CarrierDesk$Rate" "fee" "I"] ++ wsX20)
def wsX2_goesBefore : List Cond := .code yX2_goesBefore cX2_goesBefore 2 (some .boolean) :: ([.fieldLink RX2 15 "CarrierDesk$Rate" "prefix" "I", .fieldLink RX2 18 "CarrierDesk$Rate" "day" "I", .fieldLink RX2 9 "CarrierDesk$Rate" "id" "I"] ++ wsX20)
def wsX2_quotientUp : List Cond := .code yX2_quotientUp cX2_quotientUp 2 (some .int) :: ([])
def wsX2_chargeFor : List Cond := .code yX2_chargeFor cX2_chargeFor 3 (some .int) :: ([.fieldLink RX2 24 "CarrierDesk$Rate" "step" "I", .fieldLink RX2 27 "CarrierDesk$Rate" "least" "I", .methodLink RX2 37 Lib.Math.max.name, .static Lib.Math.max.name, .initialized "java/lang/Math", .code Lib.Math.max.name Lib.Math.max.code 2 (some .int), .fieldLink RX2 30 "CarrierDesk$Rate" "fee" "I", .fieldLink RX2 21 "CarrierDesk$Rate" "price" "I", .methodLink RX2 33 yX2_quotientUp, .static yX2_quotientUp, .initialized RX2, .code yX2_quotientUp cX2_quotientUp 2 (some .int)] ++ wsX20)
def wsX3_init : List Cond := .code yX3_init cX3_init 1 none :: ([.methodLink RX3 3 objectInit, .instanceMethod objectInit, .code objectInit ⟨#[0xb1]⟩ 1 none, .arrayClass .long, .fieldLink RX3 11 "CarrierDesk$Source" "delivered" "[J", .fieldLink RX3 15 "CarrierDesk$Source" "least" "I"] ++ wsX30)
def wsX3_bitOf : List Cond := .code yX3_bitOf cX3_bitOf 1 (some .long) :: ([])
def wsX3_has : List Cond := .code yX3_has cX3_has 3 (some .boolean) :: ([.fieldLink RX3 11 "CarrierDesk$Source" "delivered" "[J", .methodLink RX3 19 yX3_bitOf, .static yX3_bitOf, .initialized RX3, .code yX3_bitOf cX3_bitOf 1 (some .long)] ++ wsX30)
def wsX3_add : List Cond := .code yX3_add cX3_add 3 none :: ([.fieldLink RX3 11 "CarrierDesk$Source" "delivered" "[J", .fieldLink RX3 23 "CarrierDesk$Source" "deliveredCount" "I", .fieldLink RX3 15 "CarrierDesk$Source" "least" "I", .methodLink RX3 26 Lib.Math.min.name, .static Lib.Math.min.name, .initialized "java/lang/Math", .code Lib.Math.min.name Lib.Math.min.code 2 (some .int), .fieldLink RX3 32 "CarrierDesk$Source" "greatest" "I", .methodLink RX3 35 Lib.Math.max.name, .static Lib.Math.max.name, .code Lib.Math.max.name Lib.Math.max.code 2 (some .int), .methodLink RX3 19 yX3_bitOf, .static yX3_bitOf, .initialized RX3, .code yX3_bitOf cX3_bitOf 1 (some .long)] ++ wsX30)
def wsX3_missing : List Cond := .code yX3_missing cX3_missing 1 (some .int) :: ([.fieldLink RX3 23 "CarrierDesk$Source" "deliveredCount" "I", .fieldLink RX3 32 "CarrierDesk$Source" "greatest" "I", .fieldLink RX3 15 "CarrierDesk$Source" "least" "I"] ++ wsX30)
def wsX4_init_r1 : List Cond := [Cond.methodLink RX4 1 objectInit, Cond.instanceMethod objectInit, Cond.code objectInit ⟨#[0xb1]⟩ 1 none, Cond.classLink RX4 9 RX3, Cond.fieldLink RX4 11 "CarrierDesk" "sources" "[LCarrierDesk$Source;", Cond.classLink RX4 15 RX0, Cond.fieldLink RX4 17 "CarrierDesk" "calls" "[LCarrierDesk$Call;", Cond.fieldLink RX4 21 "CarrierDesk" "bound" "I", Cond.classLink RX4 25 RX2, Cond.fieldLink RX4 27 "CarrierDesk" "rates" "[LCarrierDesk$Rate;", Cond.classLink RX4 31 RX1, Cond.fieldLink RX4 33 "CarrierDesk" "carriers" "[LCarrierDesk$Carrier;", Cond.instantiable RX3 5, Cond.initialized RX3, Cond.instantiable RX1 2, Cond.initialized RX1, Cond.instanceMethod yX3_init, Cond.code yX3_init cX3_init 1 none, Cond.methodLink RX3 3 objectInit, Cond.arrayClass .long, Cond.fieldLink RX3 11 "CarrierDesk$Source" "delivered" "[J", Cond.fieldLink RX3 15 "CarrierDesk$Source" "least" "I", Cond.instanceMethod yX1_init, Cond.code yX1_init cX1_init 1 none]
def wsX4_init_r2 : List Cond := [Cond.methodLink RX1 3 objectInit, Cond.arrayClass .int, Cond.fieldLink RX1 9 "CarrierDesk$Carrier" "prefixes" "[I", Cond.fieldLink RX1 15 "CarrierDesk$Carrier" "prices" "[I"]
def wsX4_init : List Cond := .code yX4_init cX4_init 2 none :: ((wsX4_init_r1 ++ wsX4_init_r2) ++ wsX40 ++ wsX30 ++ wsX10)
def wsX4_within : List Cond := .code yX4_within cX4_within 3 (some .boolean) :: ([])
def wsX4_setBound : List Cond := .code yX4_setBound cX4_setBound 3 (some .int) :: ([.classLink RX4 43 "java/lang/IllegalArgumentException", .initialized "java/lang/IllegalArgumentException", .fieldLink RX4 21 "CarrierDesk" "bound" "I", .methodLink RX4 39 yX4_within, .static yX4_within, .initialized RX4, .code yX4_within cX4_within 3 (some .boolean)] ++ wsX40 ++ (vx_atS RX4 47 "java/lang/IllegalArgumentException" ["java/lang/RuntimeException", "java/lang/Exception"]).filter goodWord)
def wsX4_sourceAt : List Cond := .code yX4_sourceAt cX4_sourceAt 2 (some (.object "CarrierDesk$Source")) :: ([.fieldLink RX4 11 "CarrierDesk" "sources" "[LCarrierDesk$Source;"] ++ wsX40)
def wsX4_isNumber : List Cond := .code yX4_isNumber cX4_isNumber 1 (some .boolean) :: ([.constant RX4 234 (99999999), .methodLink RX4 39 yX4_within, .static yX4_within, .initialized RX4, .code yX4_within cX4_within 3 (some .boolean)])
def wsX4_callJoinedBy : List Cond := .code yX4_callJoinedBy cX4_callJoinedBy 9 (some (.object "CarrierDesk$Call")) :: ([.fieldLink RX4 17 "CarrierDesk" "calls" "[LCarrierDesk$Call;", .fieldLink RX4 166 "CarrierDesk$Call" "number" "I", .fieldLink RX4 21 "CarrierDesk" "bound" "I", .methodLink RX4 236 yX0_hasLegFrom, .instanceMethod yX0_hasLegFrom, .selects RX0 yX0_hasLegFrom yX0_hasLegFrom, .initialized RX0, .code yX0_hasLegFrom cX0_hasLegFrom 2 (some .boolean), .fieldLink RX0 27 "CarrierDesk$Call" "sourceBits" "I", .methodLink RX4 239 yX0_beganWithin, .instanceMethod yX0_beganWithin, .selects RX0 yX0_beganWithin yX0_beganWithin, .code yX0_beganWithin cX0_beganWithin 4 (some .boolean), .fieldLink RX0 21 "CarrierDesk$Call" "firstBegin" "I", .methodLink RX0 30 Lib.Math.abs.name, .static Lib.Math.abs.name, .initialized "java/lang/Math", .code Lib.Math.abs.name Lib.Math.abs.code 1 (some .int), .fieldLink RX0 24 "CarrierDesk$Call" "firstSeconds" "I"] ++ wsX40 ++ wsX00)
def wsX4_newCall : List Cond := .code yX4_newCall cX4_newCall 6 (some (.object "CarrierDesk$Call")) :: ([.fieldLink RX4 97 "CarrierDesk" "callCount" "I", .fieldLink RX4 17 "CarrierDesk" "calls" "[LCarrierDesk$Call;", .classLink RX4 15 RX0, .instantiable RX0 8, .initialized RX0, .methodLink RX4 242 yX0_init, .instanceMethod yX0_init, .code yX0_init cX0_init 5 none, .methodLink RX0 3 objectInit, .instanceMethod objectInit, .code objectInit ⟨#[0xb1]⟩ 1 none, .fieldLink RX0 9 "CarrierDesk$Call" "bookedAmount" "I", .fieldLink RX0 15 "CarrierDesk$Call" "id" "I", .fieldLink RX0 18 "CarrierDesk$Call" "number" "I", .fieldLink RX0 21 "CarrierDesk$Call" "firstBegin" "I", .fieldLink RX0 24 "CarrierDesk$Call" "firstSeconds" "I"] ++ wsX40 ++ wsX00)
def wsX4_record_r1 : List Cond := [Cond.classLink RX4 43 "java/lang/IllegalArgumentException", Cond.initialized "java/lang/IllegalArgumentException", Cond.classLink RX4 75 "java/lang/IllegalStateException", Cond.initialized "java/lang/IllegalStateException", Cond.constant RX4 58 (999999), Cond.fieldLink RX4 64 "CarrierDesk$Source" "doubleCount" "I", Cond.fieldLink RX4 88 "CarrierDesk$Call" "id" "I", Cond.methodLink RX4 50 yX4_sourceAt, Cond.instanceMethod yX4_sourceAt, Cond.selects RX4 yX4_sourceAt yX4_sourceAt, Cond.initialized RX4, Cond.code yX4_sourceAt cX4_sourceAt 2 (some (.object "CarrierDesk$Source")), Cond.fieldLink RX4 11 "CarrierDesk" "sources" "[LCarrierDesk$Source;", Cond.methodLink RX4 39 yX4_within, Cond.static yX4_within, Cond.code yX4_within cX4_within 3 (some .boolean), Cond.methodLink RX4 54 yX4_isNumber, Cond.static yX4_isNumber, Cond.code yX4_isNumber cX4_isNumber 1 (some .boolean), Cond.constant RX4 234 (99999999), Cond.methodLink RX4 61 yX3_has, Cond.instanceMethod yX3_has, Cond.selects RX3 yX3_has yX3_has, Cond.initialized RX3]
def wsX4_record_r2 : List Cond := [Cond.code yX3_has cX3_has 3 (some .boolean), Cond.fieldLink RX3 11 "CarrierDesk$Source" "delivered" "[J", Cond.methodLink RX3 19 yX3_bitOf, Cond.static yX3_bitOf, Cond.code yX3_bitOf cX3_bitOf 1 (some .long), Cond.methodLink RX4 67 yX4_callJoinedBy, Cond.instanceMethod yX4_callJoinedBy, Cond.selects RX4 yX4_callJoinedBy yX4_callJoinedBy, Cond.code yX4_callJoinedBy cX4_callJoinedBy 9 (some (.object "CarrierDesk$Call")), Cond.fieldLink RX4 17 "CarrierDesk" "calls" "[LCarrierDesk$Call;", Cond.fieldLink RX4 166 "CarrierDesk$Call" "number" "I", Cond.fieldLink RX4 21 "CarrierDesk" "bound" "I", Cond.methodLink RX4 236 yX0_hasLegFrom, Cond.instanceMethod yX0_hasLegFrom, Cond.selects RX0 yX0_hasLegFrom yX0_hasLegFrom, Cond.initialized RX0, Cond.code yX0_hasLegFrom cX0_hasLegFrom 2 (some .boolean), Cond.fieldLink RX0 27 "CarrierDesk$Call" "sourceBits" "I", Cond.methodLink RX4 239 yX0_beganWithin, Cond.instanceMethod yX0_beganWithin, Cond.selects RX0 yX0_beganWithin yX0_beganWithin, Cond.code yX0_beganWithin cX0_beganWithin 4 (some .boolean), Cond.fieldLink RX0 21 "CarrierDesk$Call" "firstBegin" "I", Cond.methodLink RX0 30 Lib.Math.abs.name]
def wsX4_record_r3 : List Cond := [Cond.static Lib.Math.abs.name, Cond.initialized "java/lang/Math", Cond.code Lib.Math.abs.name Lib.Math.abs.code 1 (some .int), Cond.fieldLink RX0 24 "CarrierDesk$Call" "firstSeconds" "I", Cond.methodLink RX4 71 yX4_newCall, Cond.instanceMethod yX4_newCall, Cond.selects RX4 yX4_newCall yX4_newCall, Cond.code yX4_newCall cX4_newCall 6 (some (.object "CarrierDesk$Call")), Cond.fieldLink RX4 97 "CarrierDesk" "callCount" "I", Cond.classLink RX4 15 RX0, Cond.instantiable RX0 8, Cond.methodLink RX4 242 yX0_init, Cond.instanceMethod yX0_init, Cond.code yX0_init cX0_init 5 none, Cond.methodLink RX0 3 objectInit, Cond.instanceMethod objectInit, Cond.code objectInit ⟨#[0xb1]⟩ 1 none, Cond.fieldLink RX0 9 "CarrierDesk$Call" "bookedAmount" "I", Cond.fieldLink RX0 15 "CarrierDesk$Call" "id" "I", Cond.fieldLink RX0 18 "CarrierDesk$Call" "number" "I", Cond.methodLink RX4 80 yX3_add, Cond.instanceMethod yX3_add, Cond.selects RX3 yX3_add yX3_add, Cond.code yX3_add cX3_add 3 none]
def wsX4_record_r4 : List Cond := [Cond.fieldLink RX3 23 "CarrierDesk$Source" "deliveredCount" "I", Cond.fieldLink RX3 15 "CarrierDesk$Source" "least" "I", Cond.methodLink RX3 26 Lib.Math.min.name, Cond.static Lib.Math.min.name, Cond.code Lib.Math.min.name Lib.Math.min.code 2 (some .int), Cond.fieldLink RX3 32 "CarrierDesk$Source" "greatest" "I", Cond.methodLink RX3 35 Lib.Math.max.name, Cond.static Lib.Math.max.name, Cond.code Lib.Math.max.name Lib.Math.max.code 2 (some .int), Cond.methodLink RX4 84 yX0_addLeg, Cond.instanceMethod yX0_addLeg, Cond.selects RX0 yX0_addLeg yX0_addLeg, Cond.code yX0_addLeg cX0_addLeg 3 none, Cond.fieldLink RX0 36 "CarrierDesk$Call" "seconds" "I", Cond.methodLink RX0 39 Lib.Math.max.name]
def wsX4_record : List Cond := .code yX4_record cX4_record 8 (some .int) :: ((wsX4_record_r1 ++ (wsX4_record_r2 ++ (wsX4_record_r3 ++ wsX4_record_r4))) ++ wsX30 ++ wsX00 ++ wsX40 ++ (vx_atS RX4 47 "java/lang/IllegalArgumentException" ["java/lang/RuntimeException", "java/lang/Exception"]).filter goodWord ++ (vx_atS RX4 79 "java/lang/IllegalStateException" ["java/lang/RuntimeException", "java/lang/Exception"]).filter goodWord)
def wsX4_gaps : List Cond := .code yX4_gaps cX4_gaps 3 (some .int) :: ([.classLink RX4 43 "java/lang/IllegalArgumentException", .initialized "java/lang/IllegalArgumentException", .methodLink RX4 50 yX4_sourceAt, .instanceMethod yX4_sourceAt, .selects RX4 yX4_sourceAt yX4_sourceAt, .initialized RX4, .code yX4_sourceAt cX4_sourceAt 2 (some (.object "CarrierDesk$Source")), .fieldLink RX4 11 "CarrierDesk" "sources" "[LCarrierDesk$Source;", .methodLink RX4 93 yX3_missing, .instanceMethod yX3_missing, .selects RX3 yX3_missing yX3_missing, .initialized RX3, .code yX3_missing cX3_missing 1 (some .int), .fieldLink RX3 23 "CarrierDesk$Source" "deliveredCount" "I", .fieldLink RX3 32 "CarrierDesk$Source" "greatest" "I", .fieldLink RX3 15 "CarrierDesk$Source" "least" "I"] ++ wsX40 ++ wsX30 ++ (vx_atS RX4 47 "java/lang/IllegalArgumentException" ["java/lang/RuntimeException", "java/lang/Exception"]).filter goodWord)
def wsX4_doubles : List Cond := .code yX4_doubles cX4_doubles 3 (some .int) :: ([.classLink RX4 43 "java/lang/IllegalArgumentException", .initialized "java/lang/IllegalArgumentException", .fieldLink RX4 64 "CarrierDesk$Source" "doubleCount" "I", .methodLink RX4 50 yX4_sourceAt, .instanceMethod yX4_sourceAt, .selects RX4 yX4_sourceAt yX4_sourceAt, .initialized RX4, .code yX4_sourceAt cX4_sourceAt 2 (some (.object "CarrierDesk$Source")), .fieldLink RX4 11 "CarrierDesk" "sources" "[LCarrierDesk$Source;"] ++ wsX30 ++ wsX40 ++ (vx_atS RX4 47 "java/lang/IllegalArgumentException" ["java/lang/RuntimeException", "java/lang/Exception"]).filter goodWord)
def wsX4_calls : List Cond := .code yX4_calls cX4_calls 1 (some .int) :: ([.fieldLink RX4 97 "CarrierDesk" "callCount" "I"] ++ wsX40)
def wsX4_callAt : List Cond := .code yX4_callAt cX4_callAt 2 (some (.object "CarrierDesk$Call")) :: ([.fieldLink RX4 17 "CarrierDesk" "calls" "[LCarrierDesk$Call;"] ++ wsX40)
def wsX4_legs : List Cond := .code yX4_legs cX4_legs 3 (some .int) :: ([.classLink RX4 104 "java/lang/IndexOutOfBoundsException", .initialized "java/lang/IndexOutOfBoundsException", .fieldLink RX4 109 "CarrierDesk$Call" "sourceBits" "I", .methodLink RX4 100 yX4_callAt, .instanceMethod yX4_callAt, .selects RX4 yX4_callAt yX4_callAt, .initialized RX4, .code yX4_callAt cX4_callAt 2 (some (.object "CarrierDesk$Call")), .fieldLink RX4 17 "CarrierDesk" "calls" "[LCarrierDesk$Call;"] ++ wsX00 ++ wsX40 ++ (vx_atS RX4 108 "java/lang/IndexOutOfBoundsException" ["java/lang/RuntimeException", "java/lang/Exception"]).filter goodWord)
def wsX4_length : List Cond := .code yX4_length cX4_length 3 (some .int) :: ([.classLink RX4 104 "java/lang/IndexOutOfBoundsException", .initialized "java/lang/IndexOutOfBoundsException", .fieldLink RX4 112 "CarrierDesk$Call" "seconds" "I", .methodLink RX4 100 yX4_callAt, .instanceMethod yX4_callAt, .selects RX4 yX4_callAt yX4_callAt, .initialized RX4, .code yX4_callAt cX4_callAt 2 (some (.object "CarrierDesk$Call")), .fieldLink RX4 17 "CarrierDesk" "calls" "[LCarrierDesk$Call;"] ++ wsX00 ++ wsX40 ++ (vx_atS RX4 108 "java/lang/IndexOutOfBoundsException" ["java/lang/RuntimeException", "java/lang/Exception"]).filter goodWord)
def wsX4_isPrefix : List Cond := .code yX4_isPrefix cX4_isPrefix 1 (some .boolean) :: ([.constant RX4 235 (99999), .methodLink RX4 39 yX4_within, .static yX4_within, .initialized RX4, .code yX4_within cX4_within 3 (some .boolean)])
def wsX4_isDay : List Cond := .code yX4_isDay cX4_isDay 1 (some .boolean) :: ([.methodLink RX4 39 yX4_within, .static yX4_within, .initialized RX4, .code yX4_within cX4_within 3 (some .boolean)])
def wsX4_addRate_r1 : List Cond := [Cond.classLink RX4 43 "java/lang/IllegalArgumentException", Cond.initialized "java/lang/IllegalArgumentException", Cond.classLink RX4 75 "java/lang/IllegalStateException", Cond.initialized "java/lang/IllegalStateException", Cond.fieldLink RX4 123 "CarrierDesk" "rateCount" "I", Cond.fieldLink RX4 27 "CarrierDesk" "rates" "[LCarrierDesk$Rate;", Cond.classLink RX4 25 RX2, Cond.instantiable RX2 7, Cond.initialized RX2, Cond.methodLink RX4 115 yX4_isPrefix, Cond.static yX4_isPrefix, Cond.initialized RX4, Cond.code yX4_isPrefix cX4_isPrefix 1 (some .boolean), Cond.constant RX4 235 (99999), Cond.methodLink RX4 39 yX4_within, Cond.static yX4_within, Cond.code yX4_within cX4_within 3 (some .boolean), Cond.methodLink RX4 118 yX4_isDay, Cond.static yX4_isDay, Cond.code yX4_isDay cX4_isDay 1 (some .boolean), Cond.methodLink RX4 128 yX2_init, Cond.instanceMethod yX2_init, Cond.code yX2_init cX2_init 8 none, Cond.methodLink RX2 3 objectInit]
def wsX4_addRate_r2 : List Cond := [Cond.instanceMethod objectInit, Cond.code objectInit ⟨#[0xb1]⟩ 1 none, Cond.fieldLink RX2 9 "CarrierDesk$Rate" "id" "I", Cond.fieldLink RX2 15 "CarrierDesk$Rate" "prefix" "I", Cond.fieldLink RX2 18 "CarrierDesk$Rate" "day" "I", Cond.fieldLink RX2 21 "CarrierDesk$Rate" "price" "I", Cond.fieldLink RX2 24 "CarrierDesk$Rate" "step" "I", Cond.fieldLink RX2 27 "CarrierDesk$Rate" "least" "I", Cond.fieldLink RX2 30 "CarrierDesk$Rate" "fee" "I"]
def wsX4_addRate : List Cond := .code yX4_addRate cX4_addRate 8 (some .int) :: ((wsX4_addRate_r1 ++ wsX4_addRate_r2) ++ wsX40 ++ wsX20 ++ (vx_atS RX4 47 "java/lang/IllegalArgumentException" ["java/lang/RuntimeException", "java/lang/Exception"]).filter goodWord ++ (vx_atS RX4 79 "java/lang/IllegalStateException" ["java/lang/RuntimeException", "java/lang/Exception"]).filter goodWord)
def wsX4_rateInForce : List Cond := .code yX4_rateInForce cX4_rateInForce 8 (some (.object "CarrierDesk$Rate")) :: ([.fieldLink RX4 27 "CarrierDesk" "rates" "[LCarrierDesk$Rate;", .fieldLink RX4 245 "CarrierDesk$Rate" "day" "I", .fieldLink RX4 248 "CarrierDesk$Rate" "prefix" "I", .methodLink RX4 169 yX4_fits, .static yX4_fits, .initialized RX4, .code yX4_fits cX4_fits 4 (some .boolean), .methodLink RX4 251 yX2_goesBefore, .instanceMethod yX2_goesBefore, .selects RX2 yX2_goesBefore yX2_goesBefore, .initialized RX2, .code yX2_goesBefore cX2_goesBefore 2 (some .boolean), .fieldLink RX2 15 "CarrierDesk$Rate" "prefix" "I", .fieldLink RX2 18 "CarrierDesk$Rate" "day" "I", .fieldLink RX2 9 "CarrierDesk$Rate" "id" "I"] ++ wsX40 ++ wsX20)
def wsX4_rateFor_r1 : List Cond := [Cond.classLink RX4 43 "java/lang/IllegalArgumentException", Cond.initialized "java/lang/IllegalArgumentException", Cond.classLink RX4 137 "java/util/NoSuchElementException", Cond.initialized "java/util/NoSuchElementException", Cond.fieldLink RX4 142 "CarrierDesk$Rate" "id" "I", Cond.methodLink RX4 54 yX4_isNumber, Cond.static yX4_isNumber, Cond.initialized RX4, Cond.code yX4_isNumber cX4_isNumber 1 (some .boolean), Cond.constant RX4 234 (99999999), Cond.methodLink RX4 39 yX4_within, Cond.static yX4_within, Cond.code yX4_within cX4_within 3 (some .boolean), Cond.methodLink RX4 118 yX4_isDay, Cond.static yX4_isDay, Cond.code yX4_isDay cX4_isDay 1 (some .boolean), Cond.methodLink RX4 133 yX4_rateInForce, Cond.instanceMethod yX4_rateInForce, Cond.selects RX4 yX4_rateInForce yX4_rateInForce, Cond.code yX4_rateInForce cX4_rateInForce 8 (some (.object "CarrierDesk$Rate")), Cond.fieldLink RX4 27 "CarrierDesk" "rates" "[LCarrierDesk$Rate;", Cond.fieldLink RX4 245 "CarrierDesk$Rate" "day" "I", Cond.fieldLink RX4 248 "CarrierDesk$Rate" "prefix" "I", Cond.methodLink RX4 169 yX4_fits]
def wsX4_rateFor_r2 : List Cond := [Cond.static yX4_fits, Cond.code yX4_fits cX4_fits 4 (some .boolean), Cond.methodLink RX4 251 yX2_goesBefore, Cond.instanceMethod yX2_goesBefore, Cond.selects RX2 yX2_goesBefore yX2_goesBefore, Cond.initialized RX2, Cond.code yX2_goesBefore cX2_goesBefore 2 (some .boolean), Cond.fieldLink RX2 15 "CarrierDesk$Rate" "prefix" "I", Cond.fieldLink RX2 18 "CarrierDesk$Rate" "day" "I", Cond.fieldLink RX2 9 "CarrierDesk$Rate" "id" "I"]
def wsX4_rateFor : List Cond := .code yX4_rateFor cX4_rateFor 4 (some .int) :: ((wsX4_rateFor_r1 ++ wsX4_rateFor_r2) ++ wsX20 ++ wsX40 ++ (vx_atS RX4 47 "java/lang/IllegalArgumentException" ["java/lang/RuntimeException", "java/lang/Exception"]).filter goodWord ++ (vx_atS RX4 141 "java/util/NoSuchElementException" ["java/lang/RuntimeException", "java/lang/Exception"]).filter goodWord)
def wsX4_chargeNow_r1 : List Cond := [Cond.fieldLink RX4 166 "CarrierDesk$Call" "number" "I", Cond.fieldLink RX4 112 "CarrierDesk$Call" "seconds" "I", Cond.methodLink RX4 255 yX0_day, Cond.instanceMethod yX0_day, Cond.selects RX0 yX0_day yX0_day, Cond.initialized RX0, Cond.code yX0_day cX0_day 1 (some .int), Cond.fieldLink RX0 21 "CarrierDesk$Call" "firstBegin" "I", Cond.methodLink RX4 133 yX4_rateInForce, Cond.instanceMethod yX4_rateInForce, Cond.selects RX4 yX4_rateInForce yX4_rateInForce, Cond.initialized RX4, Cond.code yX4_rateInForce cX4_rateInForce 8 (some (.object "CarrierDesk$Rate")), Cond.fieldLink RX4 27 "CarrierDesk" "rates" "[LCarrierDesk$Rate;", Cond.fieldLink RX4 245 "CarrierDesk$Rate" "day" "I", Cond.fieldLink RX4 248 "CarrierDesk$Rate" "prefix" "I", Cond.methodLink RX4 169 yX4_fits, Cond.static yX4_fits, Cond.code yX4_fits cX4_fits 4 (some .boolean), Cond.methodLink RX4 251 yX2_goesBefore, Cond.instanceMethod yX2_goesBefore, Cond.selects RX2 yX2_goesBefore yX2_goesBefore, Cond.initialized RX2, Cond.code yX2_goesBefore cX2_goesBefore 2 (some .boolean)]
def wsX4_chargeNow_r2 : List Cond := [Cond.fieldLink RX2 15 "CarrierDesk$Rate" "prefix" "I", Cond.fieldLink RX2 18 "CarrierDesk$Rate" "day" "I", Cond.fieldLink RX2 9 "CarrierDesk$Rate" "id" "I", Cond.methodLink RX4 257 yX2_chargeFor, Cond.instanceMethod yX2_chargeFor, Cond.selects RX2 yX2_chargeFor yX2_chargeFor, Cond.code yX2_chargeFor cX2_chargeFor 3 (some .int), Cond.fieldLink RX2 24 "CarrierDesk$Rate" "step" "I", Cond.fieldLink RX2 27 "CarrierDesk$Rate" "least" "I", Cond.methodLink RX2 37 Lib.Math.max.name, Cond.static Lib.Math.max.name, Cond.initialized "java/lang/Math", Cond.code Lib.Math.max.name Lib.Math.max.code 2 (some .int), Cond.fieldLink RX2 30 "CarrierDesk$Rate" "fee" "I", Cond.fieldLink RX2 21 "CarrierDesk$Rate" "price" "I", Cond.methodLink RX2 33 yX2_quotientUp, Cond.static yX2_quotientUp, Cond.code yX2_quotientUp cX2_quotientUp 2 (some .int)]
def wsX4_chargeNow : List Cond := .code yX4_chargeNow cX4_chargeNow 3 (some .int) :: ((wsX4_chargeNow_r1 ++ wsX4_chargeNow_r2) ++ wsX00 ++ wsX40 ++ wsX20)
def wsX4_charge_r1 : List Cond := [Cond.classLink RX4 104 "java/lang/IndexOutOfBoundsException", Cond.initialized "java/lang/IndexOutOfBoundsException", Cond.classLink RX4 137 "java/util/NoSuchElementException", Cond.initialized "java/util/NoSuchElementException", Cond.methodLink RX4 100 yX4_callAt, Cond.instanceMethod yX4_callAt, Cond.selects RX4 yX4_callAt yX4_callAt, Cond.initialized RX4, Cond.code yX4_callAt cX4_callAt 2 (some (.object "CarrierDesk$Call")), Cond.fieldLink RX4 17 "CarrierDesk" "calls" "[LCarrierDesk$Call;", Cond.methodLink RX4 143 yX4_chargeNow, Cond.instanceMethod yX4_chargeNow, Cond.selects RX4 yX4_chargeNow yX4_chargeNow, Cond.code yX4_chargeNow cX4_chargeNow 3 (some .int), Cond.fieldLink RX4 166 "CarrierDesk$Call" "number" "I", Cond.fieldLink RX4 112 "CarrierDesk$Call" "seconds" "I", Cond.methodLink RX4 255 yX0_day, Cond.instanceMethod yX0_day, Cond.selects RX0 yX0_day yX0_day, Cond.initialized RX0, Cond.code yX0_day cX0_day 1 (some .int), Cond.fieldLink RX0 21 "CarrierDesk$Call" "firstBegin" "I", Cond.methodLink RX4 133 yX4_rateInForce, Cond.instanceMethod yX4_rateInForce]
def wsX4_charge_r2 : List Cond := [Cond.selects RX4 yX4_rateInForce yX4_rateInForce, Cond.code yX4_rateInForce cX4_rateInForce 8 (some (.object "CarrierDesk$Rate")), Cond.fieldLink RX4 27 "CarrierDesk" "rates" "[LCarrierDesk$Rate;", Cond.fieldLink RX4 245 "CarrierDesk$Rate" "day" "I", Cond.fieldLink RX4 248 "CarrierDesk$Rate" "prefix" "I", Cond.methodLink RX4 169 yX4_fits, Cond.static yX4_fits, Cond.code yX4_fits cX4_fits 4 (some .boolean), Cond.methodLink RX4 251 yX2_goesBefore, Cond.instanceMethod yX2_goesBefore, Cond.selects RX2 yX2_goesBefore yX2_goesBefore, Cond.initialized RX2, Cond.code yX2_goesBefore cX2_goesBefore 2 (some .boolean), Cond.fieldLink RX2 15 "CarrierDesk$Rate" "prefix" "I", Cond.fieldLink RX2 18 "CarrierDesk$Rate" "day" "I", Cond.fieldLink RX2 9 "CarrierDesk$Rate" "id" "I", Cond.methodLink RX4 257 yX2_chargeFor, Cond.instanceMethod yX2_chargeFor, Cond.selects RX2 yX2_chargeFor yX2_chargeFor, Cond.code yX2_chargeFor cX2_chargeFor 3 (some .int), Cond.fieldLink RX2 24 "CarrierDesk$Rate" "step" "I", Cond.fieldLink RX2 27 "CarrierDesk$Rate" "least" "I", Cond.methodLink RX2 37 Lib.Math.max.name, Cond.static Lib.Math.max.name]
def wsX4_charge_r3 : List Cond := [Cond.initialized "java/lang/Math", Cond.code Lib.Math.max.name Lib.Math.max.code 2 (some .int), Cond.fieldLink RX2 30 "CarrierDesk$Rate" "fee" "I", Cond.fieldLink RX2 21 "CarrierDesk$Rate" "price" "I", Cond.methodLink RX2 33 yX2_quotientUp, Cond.static yX2_quotientUp, Cond.code yX2_quotientUp cX2_quotientUp 2 (some .int)]
def wsX4_charge : List Cond := .code yX4_charge cX4_charge 4 (some .int) :: ((wsX4_charge_r1 ++ (wsX4_charge_r2 ++ wsX4_charge_r3)) ++ wsX40 ++ wsX00 ++ wsX20 ++ (vx_atS RX4 108 "java/lang/IndexOutOfBoundsException" ["java/lang/RuntimeException", "java/lang/Exception"]).filter goodWord ++ (vx_atS RX4 141 "java/util/NoSuchElementException" ["java/lang/RuntimeException", "java/lang/Exception"]).filter goodWord)
def wsX4_book_r1 : List Cond := [Cond.fieldLink RX4 17 "CarrierDesk" "calls" "[LCarrierDesk$Call;", Cond.fieldLink RX4 153 "CarrierDesk$Call" "bookedAmount" "I", Cond.methodLink RX4 149 yX0_isBooked, Cond.instanceMethod yX0_isBooked, Cond.selects RX0 yX0_isBooked yX0_isBooked, Cond.initialized RX0, Cond.code yX0_isBooked cX0_isBooked 1 (some .boolean), Cond.fieldLink RX0 9 "CarrierDesk$Call" "bookedAmount" "I", Cond.methodLink RX4 143 yX4_chargeNow, Cond.instanceMethod yX4_chargeNow, Cond.selects RX4 yX4_chargeNow yX4_chargeNow, Cond.initialized RX4, Cond.code yX4_chargeNow cX4_chargeNow 3 (some .int), Cond.fieldLink RX4 166 "CarrierDesk$Call" "number" "I", Cond.fieldLink RX4 112 "CarrierDesk$Call" "seconds" "I", Cond.methodLink RX4 255 yX0_day, Cond.instanceMethod yX0_day, Cond.selects RX0 yX0_day yX0_day, Cond.code yX0_day cX0_day 1 (some .int), Cond.fieldLink RX0 21 "CarrierDesk$Call" "firstBegin" "I", Cond.methodLink RX4 133 yX4_rateInForce, Cond.instanceMethod yX4_rateInForce, Cond.selects RX4 yX4_rateInForce yX4_rateInForce, Cond.code yX4_rateInForce cX4_rateInForce 8 (some (.object "CarrierDesk$Rate"))]
def wsX4_book_r2 : List Cond := [Cond.fieldLink RX4 27 "CarrierDesk" "rates" "[LCarrierDesk$Rate;", Cond.fieldLink RX4 245 "CarrierDesk$Rate" "day" "I", Cond.fieldLink RX4 248 "CarrierDesk$Rate" "prefix" "I", Cond.methodLink RX4 169 yX4_fits, Cond.static yX4_fits, Cond.code yX4_fits cX4_fits 4 (some .boolean), Cond.methodLink RX4 251 yX2_goesBefore, Cond.instanceMethod yX2_goesBefore, Cond.selects RX2 yX2_goesBefore yX2_goesBefore, Cond.initialized RX2, Cond.code yX2_goesBefore cX2_goesBefore 2 (some .boolean), Cond.fieldLink RX2 15 "CarrierDesk$Rate" "prefix" "I", Cond.fieldLink RX2 18 "CarrierDesk$Rate" "day" "I", Cond.fieldLink RX2 9 "CarrierDesk$Rate" "id" "I", Cond.methodLink RX4 257 yX2_chargeFor, Cond.instanceMethod yX2_chargeFor, Cond.selects RX2 yX2_chargeFor yX2_chargeFor, Cond.code yX2_chargeFor cX2_chargeFor 3 (some .int), Cond.fieldLink RX2 24 "CarrierDesk$Rate" "step" "I", Cond.fieldLink RX2 27 "CarrierDesk$Rate" "least" "I", Cond.methodLink RX2 37 Lib.Math.max.name, Cond.static Lib.Math.max.name, Cond.initialized "java/lang/Math", Cond.code Lib.Math.max.name Lib.Math.max.code 2 (some .int)]
def wsX4_book_r3 : List Cond := [Cond.fieldLink RX2 30 "CarrierDesk$Rate" "fee" "I", Cond.fieldLink RX2 21 "CarrierDesk$Rate" "price" "I", Cond.methodLink RX2 33 yX2_quotientUp, Cond.static yX2_quotientUp, Cond.code yX2_quotientUp cX2_quotientUp 2 (some .int)]
def wsX4_book : List Cond := .code yX4_book cX4_book 6 (some .int) :: ((wsX4_book_r1 ++ (wsX4_book_r2 ++ wsX4_book_r3)) ++ wsX40 ++ wsX00 ++ wsX20)
def wsX4_booked : List Cond := .code yX4_booked cX4_booked 3 (some .int) :: ([.classLink RX4 104 "java/lang/IndexOutOfBoundsException", .initialized "java/lang/IndexOutOfBoundsException", .classLink RX4 137 "java/util/NoSuchElementException", .initialized "java/util/NoSuchElementException", .fieldLink RX4 153 "CarrierDesk$Call" "bookedAmount" "I", .methodLink RX4 100 yX4_callAt, .instanceMethod yX4_callAt, .selects RX4 yX4_callAt yX4_callAt, .initialized RX4, .code yX4_callAt cX4_callAt 2 (some (.object "CarrierDesk$Call")), .fieldLink RX4 17 "CarrierDesk" "calls" "[LCarrierDesk$Call;", .methodLink RX4 149 yX0_isBooked, .instanceMethod yX0_isBooked, .selects RX0 yX0_isBooked yX0_isBooked, .initialized RX0, .code yX0_isBooked cX0_isBooked 1 (some .boolean), .fieldLink RX0 9 "CarrierDesk$Call" "bookedAmount" "I"] ++ wsX00 ++ wsX40 ++ (vx_atS RX4 108 "java/lang/IndexOutOfBoundsException" ["java/lang/RuntimeException", "java/lang/Exception"]).filter goodWord ++ (vx_atS RX4 141 "java/util/NoSuchElementException" ["java/lang/RuntimeException", "java/lang/Exception"]).filter goodWord)
def wsX4_changeByCorrecting_r1 : List Cond := [Cond.fieldLink RX4 153 "CarrierDesk$Call" "bookedAmount" "I", Cond.fieldLink RX4 161 "CarrierDesk" "changedBookings" "I", Cond.methodLink RX4 143 yX4_chargeNow, Cond.instanceMethod yX4_chargeNow, Cond.selects RX4 yX4_chargeNow yX4_chargeNow, Cond.initialized RX4, Cond.code yX4_chargeNow cX4_chargeNow 3 (some .int), Cond.fieldLink RX4 166 "CarrierDesk$Call" "number" "I", Cond.fieldLink RX4 112 "CarrierDesk$Call" "seconds" "I", Cond.methodLink RX4 255 yX0_day, Cond.instanceMethod yX0_day, Cond.selects RX0 yX0_day yX0_day, Cond.initialized RX0, Cond.code yX0_day cX0_day 1 (some .int), Cond.fieldLink RX0 21 "CarrierDesk$Call" "firstBegin" "I", Cond.methodLink RX4 133 yX4_rateInForce, Cond.instanceMethod yX4_rateInForce, Cond.selects RX4 yX4_rateInForce yX4_rateInForce, Cond.code yX4_rateInForce cX4_rateInForce 8 (some (.object "CarrierDesk$Rate")), Cond.fieldLink RX4 27 "CarrierDesk" "rates" "[LCarrierDesk$Rate;", Cond.fieldLink RX4 245 "CarrierDesk$Rate" "day" "I", Cond.fieldLink RX4 248 "CarrierDesk$Rate" "prefix" "I", Cond.methodLink RX4 169 yX4_fits, Cond.static yX4_fits]
def wsX4_changeByCorrecting_r2 : List Cond := [Cond.code yX4_fits cX4_fits 4 (some .boolean), Cond.methodLink RX4 251 yX2_goesBefore, Cond.instanceMethod yX2_goesBefore, Cond.selects RX2 yX2_goesBefore yX2_goesBefore, Cond.initialized RX2, Cond.code yX2_goesBefore cX2_goesBefore 2 (some .boolean), Cond.fieldLink RX2 15 "CarrierDesk$Rate" "prefix" "I", Cond.fieldLink RX2 18 "CarrierDesk$Rate" "day" "I", Cond.fieldLink RX2 9 "CarrierDesk$Rate" "id" "I", Cond.methodLink RX4 257 yX2_chargeFor, Cond.instanceMethod yX2_chargeFor, Cond.selects RX2 yX2_chargeFor yX2_chargeFor, Cond.code yX2_chargeFor cX2_chargeFor 3 (some .int), Cond.fieldLink RX2 24 "CarrierDesk$Rate" "step" "I", Cond.fieldLink RX2 27 "CarrierDesk$Rate" "least" "I", Cond.methodLink RX2 37 Lib.Math.max.name, Cond.static Lib.Math.max.name, Cond.initialized "java/lang/Math", Cond.code Lib.Math.max.name Lib.Math.max.code 2 (some .int), Cond.fieldLink RX2 30 "CarrierDesk$Rate" "fee" "I", Cond.fieldLink RX2 21 "CarrierDesk$Rate" "price" "I", Cond.methodLink RX2 33 yX2_quotientUp, Cond.static yX2_quotientUp, Cond.code yX2_quotientUp cX2_quotientUp 2 (some .int)]
def wsX4_changeByCorrecting : List Cond := .code yX4_changeByCorrecting cX4_changeByCorrecting 4 (some .int) :: ((wsX4_changeByCorrecting_r1 ++ wsX4_changeByCorrecting_r2) ++ wsX00 ++ wsX40 ++ wsX20)
def wsX4_correct_r1 : List Cond := [Cond.fieldLink RX4 17 "CarrierDesk" "calls" "[LCarrierDesk$Call;", Cond.methodLink RX4 149 yX0_isBooked, Cond.instanceMethod yX0_isBooked, Cond.selects RX0 yX0_isBooked yX0_isBooked, Cond.initialized RX0, Cond.code yX0_isBooked cX0_isBooked 1 (some .boolean), Cond.fieldLink RX0 9 "CarrierDesk$Call" "bookedAmount" "I", Cond.methodLink RX4 158 yX4_changeByCorrecting, Cond.instanceMethod yX4_changeByCorrecting, Cond.selects RX4 yX4_changeByCorrecting yX4_changeByCorrecting, Cond.initialized RX4, Cond.code yX4_changeByCorrecting cX4_changeByCorrecting 4 (some .int), Cond.fieldLink RX4 153 "CarrierDesk$Call" "bookedAmount" "I", Cond.fieldLink RX4 161 "CarrierDesk" "changedBookings" "I", Cond.methodLink RX4 143 yX4_chargeNow, Cond.instanceMethod yX4_chargeNow, Cond.selects RX4 yX4_chargeNow yX4_chargeNow, Cond.code yX4_chargeNow cX4_chargeNow 3 (some .int), Cond.fieldLink RX4 166 "CarrierDesk$Call" "number" "I", Cond.fieldLink RX4 112 "CarrierDesk$Call" "seconds" "I", Cond.methodLink RX4 255 yX0_day, Cond.instanceMethod yX0_day, Cond.selects RX0 yX0_day yX0_day, Cond.code yX0_day cX0_day 1 (some .int)]
def wsX4_correct_r2 : List Cond := [Cond.fieldLink RX0 21 "CarrierDesk$Call" "firstBegin" "I", Cond.methodLink RX4 133 yX4_rateInForce, Cond.instanceMethod yX4_rateInForce, Cond.selects RX4 yX4_rateInForce yX4_rateInForce, Cond.code yX4_rateInForce cX4_rateInForce 8 (some (.object "CarrierDesk$Rate")), Cond.fieldLink RX4 27 "CarrierDesk" "rates" "[LCarrierDesk$Rate;", Cond.fieldLink RX4 245 "CarrierDesk$Rate" "day" "I", Cond.fieldLink RX4 248 "CarrierDesk$Rate" "prefix" "I", Cond.methodLink RX4 169 yX4_fits, Cond.static yX4_fits, Cond.code yX4_fits cX4_fits 4 (some .boolean), Cond.methodLink RX4 251 yX2_goesBefore, Cond.instanceMethod yX2_goesBefore, Cond.selects RX2 yX2_goesBefore yX2_goesBefore, Cond.initialized RX2, Cond.code yX2_goesBefore cX2_goesBefore 2 (some .boolean), Cond.fieldLink RX2 15 "CarrierDesk$Rate" "prefix" "I", Cond.fieldLink RX2 18 "CarrierDesk$Rate" "day" "I", Cond.fieldLink RX2 9 "CarrierDesk$Rate" "id" "I", Cond.methodLink RX4 257 yX2_chargeFor, Cond.instanceMethod yX2_chargeFor, Cond.selects RX2 yX2_chargeFor yX2_chargeFor, Cond.code yX2_chargeFor cX2_chargeFor 3 (some .int), Cond.fieldLink RX2 24 "CarrierDesk$Rate" "step" "I"]
def wsX4_correct_r3 : List Cond := [Cond.fieldLink RX2 27 "CarrierDesk$Rate" "least" "I", Cond.methodLink RX2 37 Lib.Math.max.name, Cond.static Lib.Math.max.name, Cond.initialized "java/lang/Math", Cond.code Lib.Math.max.name Lib.Math.max.code 2 (some .int), Cond.fieldLink RX2 30 "CarrierDesk$Rate" "fee" "I", Cond.fieldLink RX2 21 "CarrierDesk$Rate" "price" "I", Cond.methodLink RX2 33 yX2_quotientUp, Cond.static yX2_quotientUp, Cond.code yX2_quotientUp cX2_quotientUp 2 (some .int)]
def wsX4_correct : List Cond := .code yX4_correct cX4_correct 6 (some .int) :: ((wsX4_correct_r1 ++ (wsX4_correct_r2 ++ wsX4_correct_r3)) ++ wsX40 ++ wsX00 ++ wsX20)
def wsX4_corrections : List Cond := .code yX4_corrections cX4_corrections 1 (some .int) :: ([.fieldLink RX4 161 "CarrierDesk" "changedBookings" "I"] ++ wsX40)
def wsX4_total_r1 : List Cond := [Cond.classLink RX4 43 "java/lang/IllegalArgumentException", Cond.initialized "java/lang/IllegalArgumentException", Cond.fieldLink RX4 17 "CarrierDesk" "calls" "[LCarrierDesk$Call;", Cond.fieldLink RX4 166 "CarrierDesk$Call" "number" "I", Cond.methodLink RX4 115 yX4_isPrefix, Cond.static yX4_isPrefix, Cond.initialized RX4, Cond.code yX4_isPrefix cX4_isPrefix 1 (some .boolean), Cond.constant RX4 235 (99999), Cond.methodLink RX4 39 yX4_within, Cond.static yX4_within, Cond.code yX4_within cX4_within 3 (some .boolean), Cond.methodLink RX4 169 yX4_fits, Cond.static yX4_fits, Cond.code yX4_fits cX4_fits 4 (some .boolean), Cond.methodLink RX4 173 yX0_bookedOrZero, Cond.instanceMethod yX0_bookedOrZero, Cond.selects RX0 yX0_bookedOrZero yX0_bookedOrZero, Cond.initialized RX0, Cond.code yX0_bookedOrZero cX0_bookedOrZero 1 (some .int), Cond.fieldLink RX0 9 "CarrierDesk$Call" "bookedAmount" "I", Cond.methodLink RX0 43 yX0_isBooked, Cond.instanceMethod yX0_isBooked, Cond.selects RX0 yX0_isBooked yX0_isBooked]
def wsX4_total_r2 : List Cond := [Cond.code yX0_isBooked cX0_isBooked 1 (some .boolean)]
def wsX4_total : List Cond := .code yX4_total cX4_total 7 (some .int) :: ((wsX4_total_r1 ++ wsX4_total_r2) ++ wsX40 ++ wsX00 ++ (vx_atS RX4 47 "java/lang/IllegalArgumentException" ["java/lang/RuntimeException", "java/lang/Exception"]).filter goodWord)
def wsX4_carrierAt : List Cond := .code yX4_carrierAt cX4_carrierAt 2 (some (.object "CarrierDesk$Carrier")) :: ([.fieldLink RX4 33 "CarrierDesk" "carriers" "[LCarrierDesk$Carrier;"] ++ wsX40)
def wsX4_offer_r1 : List Cond := [Cond.classLink RX4 43 "java/lang/IllegalArgumentException", Cond.initialized "java/lang/IllegalArgumentException", Cond.classLink RX4 75 "java/lang/IllegalStateException", Cond.initialized "java/lang/IllegalStateException", Cond.methodLink RX4 176 yX4_carrierAt, Cond.instanceMethod yX4_carrierAt, Cond.selects RX4 yX4_carrierAt yX4_carrierAt, Cond.initialized RX4, Cond.code yX4_carrierAt cX4_carrierAt 2 (some (.object "CarrierDesk$Carrier")), Cond.fieldLink RX4 33 "CarrierDesk" "carriers" "[LCarrierDesk$Carrier;", Cond.methodLink RX4 115 yX4_isPrefix, Cond.static yX4_isPrefix, Cond.code yX4_isPrefix cX4_isPrefix 1 (some .boolean), Cond.constant RX4 235 (99999), Cond.methodLink RX4 39 yX4_within, Cond.static yX4_within, Cond.code yX4_within cX4_within 3 (some .boolean), Cond.methodLink RX4 182 yX1_hasPlaceFor, Cond.instanceMethod yX1_hasPlaceFor, Cond.selects RX1 yX1_hasPlaceFor yX1_hasPlaceFor, Cond.initialized RX1, Cond.code yX1_hasPlaceFor cX1_hasPlaceFor 2 (some .boolean), Cond.methodLink RX1 18 yX1_placeOf, Cond.instanceMethod yX1_placeOf]
def wsX4_offer_r2 : List Cond := [Cond.selects RX1 yX1_placeOf yX1_placeOf, Cond.code yX1_placeOf cX1_placeOf 3 (some .int), Cond.fieldLink RX1 9 "CarrierDesk$Carrier" "prefixes" "[I", Cond.methodLink RX4 187 yX1_replacePrice, Cond.instanceMethod yX1_replacePrice, Cond.selects RX1 yX1_replacePrice yX1_replacePrice, Cond.code yX1_replacePrice cX1_replacePrice 5 (some .int), Cond.fieldLink RX1 15 "CarrierDesk$Carrier" "prices" "[I"]
def wsX4_offer : List Cond := .code yX4_offer cX4_offer 5 (some .int) :: ((wsX4_offer_r1 ++ wsX4_offer_r2) ++ wsX40 ++ wsX10 ++ (vx_atS RX4 47 "java/lang/IllegalArgumentException" ["java/lang/RuntimeException", "java/lang/Exception"]).filter goodWord ++ (vx_atS RX4 79 "java/lang/IllegalStateException" ["java/lang/RuntimeException", "java/lang/Exception"]).filter goodWord)
def wsX4_offerFor_r1 : List Cond := [Cond.classLink RX4 43 "java/lang/IllegalArgumentException", Cond.initialized "java/lang/IllegalArgumentException", Cond.classLink RX4 137 "java/util/NoSuchElementException", Cond.initialized "java/util/NoSuchElementException", Cond.methodLink RX4 176 yX4_carrierAt, Cond.instanceMethod yX4_carrierAt, Cond.selects RX4 yX4_carrierAt yX4_carrierAt, Cond.initialized RX4, Cond.code yX4_carrierAt cX4_carrierAt 2 (some (.object "CarrierDesk$Carrier")), Cond.fieldLink RX4 33 "CarrierDesk" "carriers" "[LCarrierDesk$Carrier;", Cond.methodLink RX4 54 yX4_isNumber, Cond.static yX4_isNumber, Cond.code yX4_isNumber cX4_isNumber 1 (some .boolean), Cond.constant RX4 234 (99999999), Cond.methodLink RX4 39 yX4_within, Cond.static yX4_within, Cond.code yX4_within cX4_within 3 (some .boolean), Cond.methodLink RX4 193 yX1_priceFor, Cond.instanceMethod yX1_priceFor, Cond.selects RX1 yX1_priceFor yX1_priceFor, Cond.initialized RX1, Cond.code yX1_priceFor cX1_priceFor 5 (some .int), Cond.fieldLink RX1 9 "CarrierDesk$Carrier" "prefixes" "[I", Cond.fieldLink RX1 15 "CarrierDesk$Carrier" "prices" "[I"]
def wsX4_offerFor_r2 : List Cond := [Cond.static yX4_fits, Cond.code yX4_fits cX4_fits 4 (some .boolean)]
def wsX4_offerFor : List Cond := .code yX4_offerFor cX4_offerFor 5 (some .int) :: ((wsX4_offerFor_r1 ++ wsX4_offerFor_r2) ++ wsX40 ++ wsX10 ++ (vx_atS RX4 47 "java/lang/IllegalArgumentException" ["java/lang/RuntimeException", "java/lang/Exception"]).filter goodWord ++ (vx_atS RX4 141 "java/util/NoSuchElementException" ["java/lang/RuntimeException", "java/lang/Exception"]).filter goodWord)
def wsX4_priceOf : List Cond := .code yX4_priceOf cX4_priceOf 4 (some .int) :: ([.methodLink RX4 176 yX4_carrierAt, .instanceMethod yX4_carrierAt, .selects RX4 yX4_carrierAt yX4_carrierAt, .initialized RX4, .code yX4_carrierAt cX4_carrierAt 2 (some (.object "CarrierDesk$Carrier")), .fieldLink RX4 33 "CarrierDesk" "carriers" "[LCarrierDesk$Carrier;", .methodLink RX4 193 yX1_priceFor, .instanceMethod yX1_priceFor, .selects RX1 yX1_priceFor yX1_priceFor, .initialized RX1, .code yX1_priceFor cX1_priceFor 5 (some .int), .fieldLink RX1 9 "CarrierDesk$Carrier" "prefixes" "[I", .fieldLink RX1 15 "CarrierDesk$Carrier" "prices" "[I", .static yX4_fits, .code yX4_fits cX4_fits 4 (some .boolean)] ++ wsX40 ++ wsX10)
def wsX4_carriersBefore : List Cond := .code yX4_carriersBefore cX4_carriersBefore 7 (some .int) :: ([.fieldLink RX4 33 "CarrierDesk" "carriers" "[LCarrierDesk$Carrier;", .methodLink RX4 260 yX4_priceOf, .instanceMethod yX4_priceOf, .selects RX4 yX4_priceOf yX4_priceOf, .initialized RX4, .code yX4_priceOf cX4_priceOf 4 (some .int), .methodLink RX4 176 yX4_carrierAt, .instanceMethod yX4_carrierAt, .selects RX4 yX4_carrierAt yX4_carrierAt, .code yX4_carrierAt cX4_carrierAt 2 (some (.object "CarrierDesk$Carrier")), .methodLink RX4 193 yX1_priceFor, .instanceMethod yX1_priceFor, .selects RX1 yX1_priceFor yX1_priceFor, .initialized RX1, .code yX1_priceFor cX1_priceFor 5 (some .int), .fieldLink RX1 9 "CarrierDesk$Carrier" "prefixes" "[I", .fieldLink RX1 15 "CarrierDesk$Carrier" "prices" "[I", .static yX4_fits, .code yX4_fits cX4_fits 4 (some .boolean)] ++ wsX40 ++ wsX10)
def wsX4_carrierOfRank : List Cond := .code yX4_carrierOfRank cX4_carrierOfRank 6 (some .int) :: ([.fieldLink RX4 33 "CarrierDesk" "carriers" "[LCarrierDesk$Carrier;", .methodLink RX4 260 yX4_priceOf, .instanceMethod yX4_priceOf, .selects RX4 yX4_priceOf yX4_priceOf, .initialized RX4, .code yX4_priceOf cX4_priceOf 4 (some .int), .methodLink RX4 176 yX4_carrierAt, .instanceMethod yX4_carrierAt, .selects RX4 yX4_carrierAt yX4_carrierAt, .code yX4_carrierAt cX4_carrierAt 2 (some (.object "CarrierDesk$Carrier")), .methodLink RX4 193 yX1_priceFor, .instanceMethod yX1_priceFor, .selects RX1 yX1_priceFor yX1_priceFor, .initialized RX1, .code yX1_priceFor cX1_priceFor 5 (some .int), .fieldLink RX1 9 "CarrierDesk$Carrier" "prefixes" "[I", .fieldLink RX1 15 "CarrierDesk$Carrier" "prices" "[I", .static yX4_fits, .code yX4_fits cX4_fits 4 (some .boolean), .methodLink RX4 263 yX4_carriersBefore, .instanceMethod yX4_carriersBefore, .selects RX4 yX4_carriersBefore yX4_carriersBefore, .code yX4_carriersBefore cX4_carriersBefore 7 (some .int)] ++ wsX40 ++ wsX10)
def wsX4_route_r1 : List Cond := [Cond.classLink RX4 43 "java/lang/IllegalArgumentException", Cond.initialized "java/lang/IllegalArgumentException", Cond.classLink RX4 137 "java/util/NoSuchElementException", Cond.initialized "java/util/NoSuchElementException", Cond.fieldLink RX4 201 "CarrierDesk$Rate" "price" "I", Cond.methodLink RX4 54 yX4_isNumber, Cond.static yX4_isNumber, Cond.initialized RX4, Cond.code yX4_isNumber cX4_isNumber 1 (some .boolean), Cond.constant RX4 234 (99999999), Cond.methodLink RX4 39 yX4_within, Cond.static yX4_within, Cond.code yX4_within cX4_within 3 (some .boolean), Cond.methodLink RX4 118 yX4_isDay, Cond.static yX4_isDay, Cond.code yX4_isDay cX4_isDay 1 (some .boolean), Cond.methodLink RX4 133 yX4_rateInForce, Cond.instanceMethod yX4_rateInForce, Cond.selects RX4 yX4_rateInForce yX4_rateInForce, Cond.code yX4_rateInForce cX4_rateInForce 8 (some (.object "CarrierDesk$Rate")), Cond.fieldLink RX4 27 "CarrierDesk" "rates" "[LCarrierDesk$Rate;", Cond.fieldLink RX4 245 "CarrierDesk$Rate" "day" "I", Cond.fieldLink RX4 248 "CarrierDesk$Rate" "prefix" "I", Cond.methodLink RX4 169 yX4_fits]
def wsX4_route_r2 : List Cond := [Cond.static yX4_fits, Cond.code yX4_fits cX4_fits 4 (some .boolean), Cond.methodLink RX4 251 yX2_goesBefore, Cond.instanceMethod yX2_goesBefore, Cond.selects RX2 yX2_goesBefore yX2_goesBefore, Cond.initialized RX2, Cond.code yX2_goesBefore cX2_goesBefore 2 (some .boolean), Cond.fieldLink RX2 15 "CarrierDesk$Rate" "prefix" "I", Cond.fieldLink RX2 18 "CarrierDesk$Rate" "day" "I", Cond.fieldLink RX2 9 "CarrierDesk$Rate" "id" "I", Cond.methodLink RX4 204 yX4_carrierOfRank, Cond.instanceMethod yX4_carrierOfRank, Cond.selects RX4 yX4_carrierOfRank yX4_carrierOfRank, Cond.code yX4_carrierOfRank cX4_carrierOfRank 6 (some .int), Cond.fieldLink RX4 33 "CarrierDesk" "carriers" "[LCarrierDesk$Carrier;", Cond.methodLink RX4 260 yX4_priceOf, Cond.instanceMethod yX4_priceOf, Cond.selects RX4 yX4_priceOf yX4_priceOf, Cond.code yX4_priceOf cX4_priceOf 4 (some .int), Cond.methodLink RX4 176 yX4_carrierAt, Cond.instanceMethod yX4_carrierAt, Cond.selects RX4 yX4_carrierAt yX4_carrierAt, Cond.code yX4_carrierAt cX4_carrierAt 2 (some (.object "CarrierDesk$Carrier")), Cond.methodLink RX4 193 yX1_priceFor]
def wsX4_route_r3 : List Cond := [Cond.instanceMethod yX1_priceFor, Cond.selects RX1 yX1_priceFor yX1_priceFor, Cond.initialized RX1, Cond.code yX1_priceFor cX1_priceFor 5 (some .int), Cond.fieldLink RX1 9 "CarrierDesk$Carrier" "prefixes" "[I", Cond.fieldLink RX1 15 "CarrierDesk$Carrier" "prices" "[I", Cond.methodLink RX4 263 yX4_carriersBefore, Cond.instanceMethod yX4_carriersBefore, Cond.selects RX4 yX4_carriersBefore yX4_carriersBefore, Cond.code yX4_carriersBefore cX4_carriersBefore 7 (some .int)]
def wsX4_route : List Cond := .code yX4_route cX4_route 7 (some .int) :: ((wsX4_route_r1 ++ (wsX4_route_r2 ++ wsX4_route_r3)) ++ wsX20 ++ wsX40 ++ wsX10 ++ (vx_atS RX4 47 "java/lang/IllegalArgumentException" ["java/lang/RuntimeException", "java/lang/Exception"]).filter goodWord ++ (vx_atS RX4 141 "java/util/NoSuchElementException" ["java/lang/RuntimeException", "java/lang/Exception"]).filter goodWord)
def wsX4_claim : List Cond := .code yX4_claim cX4_claim 5 (some .int) :: ([.classLink RX4 104 "java/lang/IndexOutOfBoundsException", .initialized "java/lang/IndexOutOfBoundsException", .classLink RX4 43 "java/lang/IllegalArgumentException", .initialized "java/lang/IllegalArgumentException", .constant RX4 210 (1000000), .fieldLink RX4 213 "CarrierDesk$Call" "claimed" "I", .methodLink RX4 100 yX4_callAt, .instanceMethod yX4_callAt, .selects RX4 yX4_callAt yX4_callAt, .initialized RX4, .code yX4_callAt cX4_callAt 2 (some (.object "CarrierDesk$Call")), .fieldLink RX4 17 "CarrierDesk" "calls" "[LCarrierDesk$Call;", .methodLink RX4 39 yX4_within, .static yX4_within, .code yX4_within cX4_within 3 (some .boolean)] ++ wsX00 ++ wsX40 ++ (vx_atS RX4 108 "java/lang/IndexOutOfBoundsException" ["java/lang/RuntimeException", "java/lang/Exception"]).filter goodWord ++ (vx_atS RX4 47 "java/lang/IllegalArgumentException" ["java/lang/RuntimeException", "java/lang/Exception"]).filter goodWord)
def wsX4_differenceUnder : List Cond := .code yX4_differenceUnder cX4_differenceUnder 7 (some .int) :: ([.fieldLink RX4 17 "CarrierDesk" "calls" "[LCarrierDesk$Call;", .fieldLink RX4 166 "CarrierDesk$Call" "number" "I", .methodLink RX4 169 yX4_fits, .static yX4_fits, .initialized RX4, .code yX4_fits cX4_fits 4 (some .boolean), .methodLink RX4 224 yX0_disputed, .instanceMethod yX0_disputed, .selects RX0 yX0_disputed yX0_disputed, .initialized RX0, .code yX0_disputed cX0_disputed 1 (some .int), .fieldLink RX0 47 "CarrierDesk$Call" "claimed" "I", .methodLink RX0 50 yX0_bookedOrZero, .instanceMethod yX0_bookedOrZero, .selects RX0 yX0_bookedOrZero yX0_bookedOrZero, .code yX0_bookedOrZero cX0_bookedOrZero 1 (some .int), .fieldLink RX0 9 "CarrierDesk$Call" "bookedAmount" "I", .methodLink RX0 43 yX0_isBooked, .instanceMethod yX0_isBooked, .selects RX0 yX0_isBooked yX0_isBooked, .code yX0_isBooked cX0_isBooked 1 (some .boolean)] ++ wsX40 ++ wsX00)
def wsX4_difference_r1 : List Cond := [Cond.classLink RX4 43 "java/lang/IllegalArgumentException", Cond.initialized "java/lang/IllegalArgumentException", Cond.methodLink RX4 115 yX4_isPrefix, Cond.static yX4_isPrefix, Cond.initialized RX4, Cond.code yX4_isPrefix cX4_isPrefix 1 (some .boolean), Cond.constant RX4 235 (99999), Cond.methodLink RX4 39 yX4_within, Cond.static yX4_within, Cond.code yX4_within cX4_within 3 (some .boolean), Cond.methodLink RX4 216 yX4_differenceUnder, Cond.instanceMethod yX4_differenceUnder, Cond.selects RX4 yX4_differenceUnder yX4_differenceUnder, Cond.code yX4_differenceUnder cX4_differenceUnder 7 (some .int), Cond.fieldLink RX4 17 "CarrierDesk" "calls" "[LCarrierDesk$Call;", Cond.fieldLink RX4 166 "CarrierDesk$Call" "number" "I", Cond.methodLink RX4 169 yX4_fits, Cond.static yX4_fits, Cond.code yX4_fits cX4_fits 4 (some .boolean), Cond.methodLink RX4 224 yX0_disputed, Cond.instanceMethod yX0_disputed, Cond.selects RX0 yX0_disputed yX0_disputed, Cond.initialized RX0, Cond.code yX0_disputed cX0_disputed 1 (some .int)]
def wsX4_difference_r2 : List Cond := [Cond.fieldLink RX0 47 "CarrierDesk$Call" "claimed" "I", Cond.methodLink RX0 50 yX0_bookedOrZero, Cond.instanceMethod yX0_bookedOrZero, Cond.selects RX0 yX0_bookedOrZero yX0_bookedOrZero, Cond.code yX0_bookedOrZero cX0_bookedOrZero 1 (some .int), Cond.fieldLink RX0 9 "CarrierDesk$Call" "bookedAmount" "I", Cond.methodLink RX0 43 yX0_isBooked, Cond.instanceMethod yX0_isBooked, Cond.selects RX0 yX0_isBooked yX0_isBooked, Cond.code yX0_isBooked cX0_isBooked 1 (some .boolean)]
def wsX4_difference : List Cond := .code yX4_difference cX4_difference 2 (some .int) :: ((wsX4_difference_r1 ++ wsX4_difference_r2) ++ wsX40 ++ wsX00 ++ (vx_atS RX4 47 "java/lang/IllegalArgumentException" ["java/lang/RuntimeException", "java/lang/Exception"]).filter goodWord)
def wsX4_withWorstDigit_r1 : List Cond := [Cond.methodLink RX4 227 Lib.Math.abs.name, Cond.static Lib.Math.abs.name, Cond.initialized "java/lang/Math", Cond.code Lib.Math.abs.name Lib.Math.abs.code 1 (some .int), Cond.methodLink RX4 216 yX4_differenceUnder, Cond.instanceMethod yX4_differenceUnder, Cond.selects RX4 yX4_differenceUnder yX4_differenceUnder, Cond.initialized RX4, Cond.code yX4_differenceUnder cX4_differenceUnder 7 (some .int), Cond.fieldLink RX4 17 "CarrierDesk" "calls" "[LCarrierDesk$Call;", Cond.fieldLink RX4 166 "CarrierDesk$Call" "number" "I", Cond.methodLink RX4 169 yX4_fits, Cond.static yX4_fits, Cond.code yX4_fits cX4_fits 4 (some .boolean), Cond.methodLink RX4 224 yX0_disputed, Cond.instanceMethod yX0_disputed, Cond.selects RX0 yX0_disputed yX0_disputed, Cond.initialized RX0, Cond.code yX0_disputed cX0_disputed 1 (some .int), Cond.fieldLink RX0 47 "CarrierDesk$Call" "claimed" "I", Cond.methodLink RX0 50 yX0_bookedOrZero, Cond.instanceMethod yX0_bookedOrZero, Cond.selects RX0 yX0_bookedOrZero yX0_bookedOrZero, Cond.code yX0_bookedOrZero cX0_bookedOrZero 1 (some .int)]
def wsX4_withWorstDigit_r2 : List Cond := [Cond.fieldLink RX0 9 "CarrierDesk$Call" "bookedAmount" "I", Cond.methodLink RX0 43 yX0_isBooked, Cond.instanceMethod yX0_isBooked, Cond.selects RX0 yX0_isBooked yX0_isBooked, Cond.code yX0_isBooked cX0_isBooked 1 (some .boolean)]
def wsX4_withWorstDigit : List Cond := .code yX4_withWorstDigit cX4_withWorstDigit 7 (some .int) :: ((wsX4_withWorstDigit_r1 ++ wsX4_withWorstDigit_r2) ++ wsX40 ++ wsX00)
def wsX4_narrow_r1 : List Cond := [Cond.classLink RX4 43 "java/lang/IllegalArgumentException", Cond.initialized "java/lang/IllegalArgumentException", Cond.methodLink RX4 39 yX4_within, Cond.static yX4_within, Cond.initialized RX4, Cond.code yX4_within cX4_within 3 (some .boolean), Cond.methodLink RX4 221 yX4_withWorstDigit, Cond.instanceMethod yX4_withWorstDigit, Cond.selects RX4 yX4_withWorstDigit yX4_withWorstDigit, Cond.code yX4_withWorstDigit cX4_withWorstDigit 7 (some .int), Cond.methodLink RX4 227 Lib.Math.abs.name, Cond.static Lib.Math.abs.name, Cond.initialized "java/lang/Math", Cond.code Lib.Math.abs.name Lib.Math.abs.code 1 (some .int), Cond.methodLink RX4 216 yX4_differenceUnder, Cond.instanceMethod yX4_differenceUnder, Cond.selects RX4 yX4_differenceUnder yX4_differenceUnder, Cond.code yX4_differenceUnder cX4_differenceUnder 7 (some .int), Cond.fieldLink RX4 17 "CarrierDesk" "calls" "[LCarrierDesk$Call;", Cond.fieldLink RX4 166 "CarrierDesk$Call" "number" "I", Cond.methodLink RX4 169 yX4_fits, Cond.static yX4_fits, Cond.code yX4_fits cX4_fits 4 (some .boolean), Cond.methodLink RX4 224 yX0_disputed]
def wsX4_narrow_r2 : List Cond := [Cond.instanceMethod yX0_disputed, Cond.selects RX0 yX0_disputed yX0_disputed, Cond.initialized RX0, Cond.code yX0_disputed cX0_disputed 1 (some .int), Cond.fieldLink RX0 47 "CarrierDesk$Call" "claimed" "I", Cond.methodLink RX0 50 yX0_bookedOrZero, Cond.instanceMethod yX0_bookedOrZero, Cond.selects RX0 yX0_bookedOrZero yX0_bookedOrZero, Cond.code yX0_bookedOrZero cX0_bookedOrZero 1 (some .int), Cond.fieldLink RX0 9 "CarrierDesk$Call" "bookedAmount" "I", Cond.methodLink RX0 43 yX0_isBooked, Cond.instanceMethod yX0_isBooked, Cond.selects RX0 yX0_isBooked yX0_isBooked, Cond.code yX0_isBooked cX0_isBooked 1 (some .boolean)]
def wsX4_narrow : List Cond := .code yX4_narrow cX4_narrow 4 (some .int) :: ((wsX4_narrow_r1 ++ wsX4_narrow_r2) ++ wsX40 ++ wsX00 ++ (vx_atS RX4 47 "java/lang/IllegalArgumentException" ["java/lang/RuntimeException", "java/lang/Exception"]).filter goodWord)
def wsX4_worst : List Cond := .code yX4_worst cX4_worst 6 (some .int) :: ([.classLink RX4 137 "java/util/NoSuchElementException", .initialized "java/util/NoSuchElementException", .fieldLink RX4 17 "CarrierDesk" "calls" "[LCarrierDesk$Call;", .methodLink RX4 227 Lib.Math.abs.name, .static Lib.Math.abs.name, .initialized "java/lang/Math", .code Lib.Math.abs.name Lib.Math.abs.code 1 (some .int), .fieldLink RX4 88 "CarrierDesk$Call" "id" "I", .methodLink RX4 224 yX0_disputed, .instanceMethod yX0_disputed, .selects RX0 yX0_disputed yX0_disputed, .initialized RX0, .code yX0_disputed cX0_disputed 1 (some .int), .fieldLink RX0 47 "CarrierDesk$Call" "claimed" "I", .methodLink RX0 50 yX0_bookedOrZero, .instanceMethod yX0_bookedOrZero, .selects RX0 yX0_bookedOrZero yX0_bookedOrZero, .code yX0_bookedOrZero cX0_bookedOrZero 1 (some .int), .fieldLink RX0 9 "CarrierDesk$Call" "bookedAmount" "I", .methodLink RX0 43 yX0_isBooked, .instanceMethod yX0_isBooked, .selects RX0 yX0_isBooked yX0_isBooked, .code yX0_isBooked cX0_isBooked 1 (some .boolean)] ++ wsX40 ++ wsX00 ++ (vx_atS RX4 141 "java/util/NoSuchElementException" ["java/lang/RuntimeException", "java/lang/Exception"]).filter goodWord)
def wsX5_init_r1 : List Cond := [Cond.methodLink RX5 1 objectInit, Cond.instanceMethod objectInit, Cond.code objectInit ⟨#[0xb1]⟩ 1 none, Cond.fieldLink RX5 7 "CarrierDeskModel" "bound" "I", Cond.arrayClass .long, Cond.fieldLink RX5 13 "CarrierDeskModel" "delivered" "[J", Cond.arrayClass .int, Cond.fieldLink RX5 17 "CarrierDeskModel" "many" "[I", Cond.fieldLink RX5 21 "CarrierDeskModel" "least" "[I", Cond.fieldLink RX5 24 "CarrierDeskModel" "most" "[I", Cond.fieldLink RX5 27 "CarrierDeskModel" "doubles" "[I", Cond.fieldLink RX5 30 "CarrierDeskModel" "number" "[I", Cond.fieldLink RX5 33 "CarrierDeskModel" "begin" "[I", Cond.fieldLink RX5 36 "CarrierDeskModel" "first" "[I", Cond.fieldLink RX5 39 "CarrierDeskModel" "length" "[I", Cond.fieldLink RX5 42 "CarrierDeskModel" "legs" "[I", Cond.fieldLink RX5 45 "CarrierDeskModel" "booked" "[I", Cond.fieldLink RX5 48 "CarrierDeskModel" "claim" "[I", Cond.fieldLink RX5 51 "CarrierDeskModel" "prefix" "[I", Cond.fieldLink RX5 54 "CarrierDeskModel" "day" "[I", Cond.fieldLink RX5 57 "CarrierDeskModel" "price" "[I", Cond.fieldLink RX5 60 "CarrierDeskModel" "step" "[I", Cond.fieldLink RX5 63 "CarrierDeskModel" "shortest" "[I", Cond.fieldLink RX5 66 "CarrierDeskModel" "fee" "[I"]
def wsX5_init_r2 : List Cond := [Cond.fieldLink RX5 69 "CarrierDeskModel" "offers" "[I", Cond.fieldLink RX5 72 "CarrierDeskModel" "offered" "[I", Cond.fieldLink RX5 75 "CarrierDeskModel" "asked" "[I"]
def wsX5_init : List Cond := .code yX5_init cX5_init 2 none :: ((wsX5_init_r1 ++ wsX5_init_r2) ++ wsX50)
def wsX5_thrown : List Cond := .code yX5_thrown cX5_thrown 1 (some .int) :: ([.fieldLink RX5 78 "CarrierDeskModel" "thrown" "I"] ++ wsX50)
def wsX5_fails : List Cond := .code yX5_fails cX5_fails 2 (some .int) :: ([.fieldLink RX5 78 "CarrierDeskModel" "thrown" "I"] ++ wsX50)
def wsX5_asks : List Cond := .code yX5_asks cX5_asks 2 (some .boolean) :: ([.fieldLink RX5 78 "CarrierDeskModel" "thrown" "I"] ++ wsX50)
def wsX5_in : List Cond := .code yX5_in cX5_in 3 (some .boolean) :: ([])
def wsX5_isNumber : List Cond := .code yX5_isNumber cX5_isNumber 1 (some .boolean) :: ([.constant RX5 81 (99999999), .methodLink RX5 82 yX5_in, .static yX5_in, .initialized RX5, .code yX5_in cX5_in 3 (some .boolean)])
def wsX5_isPrefix : List Cond := .code yX5_isPrefix cX5_isPrefix 1 (some .boolean) :: ([.constant RX5 86 (99999), .methodLink RX5 82 yX5_in, .static yX5_in, .initialized RX5, .code yX5_in cX5_in 3 (some .boolean)])
def wsX5_fits : List Cond := .code yX5_fits cX5_fits 3 (some .boolean) :: ([])
def wsX5_apart : List Cond := .code yX5_apart cX5_apart 2 (some .int) :: ([])
def wsX5_setBound : List Cond := .code yX5_setBound cX5_setBound 3 (some .int) :: ([.fieldLink RX5 7 "CarrierDeskModel" "bound" "I", .methodLink RX5 82 yX5_in, .static yX5_in, .initialized RX5, .code yX5_in cX5_in 3 (some .boolean), .methodLink RX5 87 yX5_asks, .instanceMethod yX5_asks, .selects RX5 yX5_asks yX5_asks, .code yX5_asks cX5_asks 2 (some .boolean), .fieldLink RX5 78 "CarrierDeskModel" "thrown" "I"] ++ wsX50)
def wsX5_joined : List Cond := .code yX5_joined cX5_joined 6 (some .int) :: ([.fieldLink RX5 91 "CarrierDeskModel" "calls" "I", .fieldLink RX5 30 "CarrierDeskModel" "number" "[I", .fieldLink RX5 42 "CarrierDeskModel" "legs" "[I", .fieldLink RX5 33 "CarrierDeskModel" "begin" "[I", .fieldLink RX5 7 "CarrierDeskModel" "bound" "I", .fieldLink RX5 36 "CarrierDeskModel" "first" "[I", .methodLink RX5 94 yX5_apart, .static yX5_apart, .initialized RX5, .code yX5_apart cX5_apart 2 (some .int)] ++ wsX50)
def wsX5_record_r1 : List Cond := [Cond.constant RX5 102 (999999), Cond.fieldLink RX5 13 "CarrierDeskModel" "delivered" "[J", Cond.fieldLink RX5 27 "CarrierDeskModel" "doubles" "[I", Cond.fieldLink RX5 21 "CarrierDeskModel" "least" "[I", Cond.fieldLink RX5 17 "CarrierDeskModel" "many" "[I", Cond.fieldLink RX5 24 "CarrierDeskModel" "most" "[I", Cond.fieldLink RX5 91 "CarrierDeskModel" "calls" "I", Cond.fieldLink RX5 30 "CarrierDeskModel" "number" "[I", Cond.fieldLink RX5 33 "CarrierDeskModel" "begin" "[I", Cond.fieldLink RX5 36 "CarrierDeskModel" "first" "[I", Cond.fieldLink RX5 42 "CarrierDeskModel" "legs" "[I", Cond.fieldLink RX5 39 "CarrierDeskModel" "length" "[I", Cond.methodLink RX5 82 yX5_in, Cond.static yX5_in, Cond.initialized RX5, Cond.code yX5_in cX5_in 3 (some .boolean), Cond.methodLink RX5 98 yX5_isNumber, Cond.static yX5_isNumber, Cond.code yX5_isNumber cX5_isNumber 1 (some .boolean), Cond.constant RX5 81 (99999999), Cond.methodLink RX5 87 yX5_asks, Cond.instanceMethod yX5_asks, Cond.selects RX5 yX5_asks yX5_asks, Cond.code yX5_asks cX5_asks 2 (some .boolean)]
def wsX5_record_r2 : List Cond := [Cond.fieldLink RX5 78 "CarrierDeskModel" "thrown" "I", Cond.methodLink RX5 103 yX5_joined, Cond.instanceMethod yX5_joined, Cond.selects RX5 yX5_joined yX5_joined, Cond.code yX5_joined cX5_joined 6 (some .int), Cond.fieldLink RX5 7 "CarrierDeskModel" "bound" "I", Cond.methodLink RX5 94 yX5_apart, Cond.static yX5_apart, Cond.code yX5_apart cX5_apart 2 (some .int), Cond.methodLink RX5 107 yX5_fails, Cond.instanceMethod yX5_fails, Cond.selects RX5 yX5_fails yX5_fails, Cond.code yX5_fails cX5_fails 2 (some .int)]
def wsX5_record : List Cond := .code yX5_record cX5_record 8 (some .int) :: ((wsX5_record_r1 ++ wsX5_record_r2) ++ wsX50)
def wsX5_gaps : List Cond := .code yX5_gaps cX5_gaps 2 (some .int) :: ([.fieldLink RX5 17 "CarrierDeskModel" "many" "[I", .fieldLink RX5 24 "CarrierDeskModel" "most" "[I", .fieldLink RX5 21 "CarrierDeskModel" "least" "[I", .methodLink RX5 82 yX5_in, .static yX5_in, .initialized RX5, .code yX5_in cX5_in 3 (some .boolean), .methodLink RX5 87 yX5_asks, .instanceMethod yX5_asks, .selects RX5 yX5_asks yX5_asks, .code yX5_asks cX5_asks 2 (some .boolean), .fieldLink RX5 78 "CarrierDeskModel" "thrown" "I"] ++ wsX50)
def wsX5_doubles : List Cond := .code yX5_doubles cX5_doubles 2 (some .int) :: ([.fieldLink RX5 27 "CarrierDeskModel" "doubles" "[I", .methodLink RX5 82 yX5_in, .static yX5_in, .initialized RX5, .code yX5_in cX5_in 3 (some .boolean), .methodLink RX5 87 yX5_asks, .instanceMethod yX5_asks, .selects RX5 yX5_asks yX5_asks, .code yX5_asks cX5_asks 2 (some .boolean), .fieldLink RX5 78 "CarrierDeskModel" "thrown" "I"] ++ wsX50)
def wsX5_calls : List Cond := .code yX5_calls cX5_calls 1 (some .int) :: ([.fieldLink RX5 78 "CarrierDeskModel" "thrown" "I", .fieldLink RX5 91 "CarrierDeskModel" "calls" "I"] ++ wsX50)
def wsX5_isCall : List Cond := .code yX5_isCall cX5_isCall 2 (some .boolean) :: ([.fieldLink RX5 91 "CarrierDeskModel" "calls" "I"] ++ wsX50)
def wsX5_legs : List Cond := .code yX5_legs cX5_legs 2 (some .int) :: ([.fieldLink RX5 42 "CarrierDeskModel" "legs" "[I", .methodLink RX5 111 yX5_isCall, .instanceMethod yX5_isCall, .selects RX5 yX5_isCall yX5_isCall, .initialized RX5, .code yX5_isCall cX5_isCall 2 (some .boolean), .fieldLink RX5 91 "CarrierDeskModel" "calls" "I", .methodLink RX5 87 yX5_asks, .instanceMethod yX5_asks, .selects RX5 yX5_asks yX5_asks, .code yX5_asks cX5_asks 2 (some .boolean), .fieldLink RX5 78 "CarrierDeskModel" "thrown" "I"] ++ wsX50)
def wsX5_length : List Cond := .code yX5_length cX5_length 2 (some .int) :: ([.fieldLink RX5 39 "CarrierDeskModel" "length" "[I", .methodLink RX5 111 yX5_isCall, .instanceMethod yX5_isCall, .selects RX5 yX5_isCall yX5_isCall, .initialized RX5, .code yX5_isCall cX5_isCall 2 (some .boolean), .fieldLink RX5 91 "CarrierDeskModel" "calls" "I", .methodLink RX5 87 yX5_asks, .instanceMethod yX5_asks, .selects RX5 yX5_asks yX5_asks, .code yX5_asks cX5_asks 2 (some .boolean), .fieldLink RX5 78 "CarrierDeskModel" "thrown" "I"] ++ wsX50)
def wsX5_addRate : List Cond := .code yX5_addRate cX5_addRate 7 (some .int) :: ([.fieldLink RX5 117 "CarrierDeskModel" "rates" "I", .fieldLink RX5 51 "CarrierDeskModel" "prefix" "[I", .fieldLink RX5 54 "CarrierDeskModel" "day" "[I", .fieldLink RX5 57 "CarrierDeskModel" "price" "[I", .fieldLink RX5 60 "CarrierDeskModel" "step" "[I", .fieldLink RX5 63 "CarrierDeskModel" "shortest" "[I", .fieldLink RX5 66 "CarrierDeskModel" "fee" "[I", .methodLink RX5 114 yX5_isPrefix, .static yX5_isPrefix, .initialized RX5, .code yX5_isPrefix cX5_isPrefix 1 (some .boolean), .constant RX5 86 (99999), .methodLink RX5 82 yX5_in, .static yX5_in, .code yX5_in cX5_in 3 (some .boolean), .methodLink RX5 87 yX5_asks, .instanceMethod yX5_asks, .selects RX5 yX5_asks yX5_asks, .code yX5_asks cX5_asks 2 (some .boolean), .fieldLink RX5 78 "CarrierDeskModel" "thrown" "I", .methodLink RX5 107 yX5_fails, .instanceMethod yX5_fails, .selects RX5 yX5_fails yX5_fails, .code yX5_fails cX5_fails 2 (some .int)] ++ wsX50)
def wsX5_rate : List Cond := .code yX5_rate cX5_rate 6 (some .int) :: ([.fieldLink RX5 117 "CarrierDeskModel" "rates" "I", .fieldLink RX5 51 "CarrierDeskModel" "prefix" "[I", .fieldLink RX5 54 "CarrierDeskModel" "day" "[I", .methodLink RX5 120 yX5_fits, .static yX5_fits, .initialized RX5, .code yX5_fits cX5_fits 3 (some .boolean)] ++ wsX50)
def wsX5_rateFor_r1 : List Cond := [Cond.methodLink RX5 98 yX5_isNumber, Cond.static yX5_isNumber, Cond.initialized RX5, Cond.code yX5_isNumber cX5_isNumber 1 (some .boolean), Cond.constant RX5 81 (99999999), Cond.methodLink RX5 82 yX5_in, Cond.static yX5_in, Cond.code yX5_in cX5_in 3 (some .boolean), Cond.methodLink RX5 87 yX5_asks, Cond.instanceMethod yX5_asks, Cond.selects RX5 yX5_asks yX5_asks, Cond.code yX5_asks cX5_asks 2 (some .boolean), Cond.fieldLink RX5 78 "CarrierDeskModel" "thrown" "I", Cond.methodLink RX5 124 yX5_rate, Cond.instanceMethod yX5_rate, Cond.selects RX5 yX5_rate yX5_rate, Cond.code yX5_rate cX5_rate 6 (some .int), Cond.fieldLink RX5 117 "CarrierDeskModel" "rates" "I", Cond.fieldLink RX5 51 "CarrierDeskModel" "prefix" "[I", Cond.fieldLink RX5 54 "CarrierDeskModel" "day" "[I", Cond.methodLink RX5 120 yX5_fits, Cond.static yX5_fits, Cond.code yX5_fits cX5_fits 3 (some .boolean), Cond.methodLink RX5 107 yX5_fails]
def wsX5_rateFor_r2 : List Cond := [Cond.instanceMethod yX5_fails, Cond.selects RX5 yX5_fails yX5_fails, Cond.code yX5_fails cX5_fails 2 (some .int)]
def wsX5_rateFor : List Cond := .code yX5_rateFor cX5_rateFor 4 (some .int) :: ((wsX5_rateFor_r1 ++ wsX5_rateFor_r2) ++ wsX50)
def wsX5_chargeOf : List Cond := .code yX5_chargeOf cX5_chargeOf 5 (some .int) :: ([.fieldLink RX5 30 "CarrierDeskModel" "number" "[I", .fieldLink RX5 33 "CarrierDeskModel" "begin" "[I", .fieldLink RX5 39 "CarrierDeskModel" "length" "[I", .fieldLink RX5 60 "CarrierDeskModel" "step" "[I", .fieldLink RX5 63 "CarrierDeskModel" "shortest" "[I", .fieldLink RX5 66 "CarrierDeskModel" "fee" "[I", .fieldLink RX5 57 "CarrierDeskModel" "price" "[I", .methodLink RX5 124 yX5_rate, .instanceMethod yX5_rate, .selects RX5 yX5_rate yX5_rate, .initialized RX5, .code yX5_rate cX5_rate 6 (some .int), .fieldLink RX5 117 "CarrierDeskModel" "rates" "I", .fieldLink RX5 51 "CarrierDeskModel" "prefix" "[I", .fieldLink RX5 54 "CarrierDeskModel" "day" "[I", .methodLink RX5 120 yX5_fits, .static yX5_fits, .code yX5_fits cX5_fits 3 (some .boolean)] ++ wsX50)
def wsX5_charge_r1 : List Cond := [Cond.methodLink RX5 111 yX5_isCall, Cond.instanceMethod yX5_isCall, Cond.selects RX5 yX5_isCall yX5_isCall, Cond.initialized RX5, Cond.code yX5_isCall cX5_isCall 2 (some .boolean), Cond.fieldLink RX5 91 "CarrierDeskModel" "calls" "I", Cond.methodLink RX5 87 yX5_asks, Cond.instanceMethod yX5_asks, Cond.selects RX5 yX5_asks yX5_asks, Cond.code yX5_asks cX5_asks 2 (some .boolean), Cond.fieldLink RX5 78 "CarrierDeskModel" "thrown" "I", Cond.methodLink RX5 127 yX5_chargeOf, Cond.instanceMethod yX5_chargeOf, Cond.selects RX5 yX5_chargeOf yX5_chargeOf, Cond.code yX5_chargeOf cX5_chargeOf 5 (some .int), Cond.fieldLink RX5 30 "CarrierDeskModel" "number" "[I", Cond.fieldLink RX5 33 "CarrierDeskModel" "begin" "[I", Cond.fieldLink RX5 39 "CarrierDeskModel" "length" "[I", Cond.fieldLink RX5 60 "CarrierDeskModel" "step" "[I", Cond.fieldLink RX5 63 "CarrierDeskModel" "shortest" "[I", Cond.fieldLink RX5 66 "CarrierDeskModel" "fee" "[I", Cond.fieldLink RX5 57 "CarrierDeskModel" "price" "[I", Cond.methodLink RX5 124 yX5_rate, Cond.instanceMethod yX5_rate]
def wsX5_charge_r2 : List Cond := [Cond.selects RX5 yX5_rate yX5_rate, Cond.code yX5_rate cX5_rate 6 (some .int), Cond.fieldLink RX5 117 "CarrierDeskModel" "rates" "I", Cond.fieldLink RX5 51 "CarrierDeskModel" "prefix" "[I", Cond.fieldLink RX5 54 "CarrierDeskModel" "day" "[I", Cond.methodLink RX5 120 yX5_fits, Cond.static yX5_fits, Cond.code yX5_fits cX5_fits 3 (some .boolean), Cond.methodLink RX5 107 yX5_fails, Cond.instanceMethod yX5_fails, Cond.selects RX5 yX5_fails yX5_fails, Cond.code yX5_fails cX5_fails 2 (some .int)]
def wsX5_charge : List Cond := .code yX5_charge cX5_charge 3 (some .int) :: ((wsX5_charge_r1 ++ wsX5_charge_r2) ++ wsX50)
def wsX5_book_r1 : List Cond := [Cond.fieldLink RX5 78 "CarrierDeskModel" "thrown" "I", Cond.fieldLink RX5 91 "CarrierDeskModel" "calls" "I", Cond.fieldLink RX5 45 "CarrierDeskModel" "booked" "[I", Cond.methodLink RX5 127 yX5_chargeOf, Cond.instanceMethod yX5_chargeOf, Cond.selects RX5 yX5_chargeOf yX5_chargeOf, Cond.initialized RX5, Cond.code yX5_chargeOf cX5_chargeOf 5 (some .int), Cond.fieldLink RX5 30 "CarrierDeskModel" "number" "[I", Cond.fieldLink RX5 33 "CarrierDeskModel" "begin" "[I", Cond.fieldLink RX5 39 "CarrierDeskModel" "length" "[I", Cond.fieldLink RX5 60 "CarrierDeskModel" "step" "[I", Cond.fieldLink RX5 63 "CarrierDeskModel" "shortest" "[I", Cond.fieldLink RX5 66 "CarrierDeskModel" "fee" "[I", Cond.fieldLink RX5 57 "CarrierDeskModel" "price" "[I", Cond.methodLink RX5 124 yX5_rate, Cond.instanceMethod yX5_rate, Cond.selects RX5 yX5_rate yX5_rate, Cond.code yX5_rate cX5_rate 6 (some .int), Cond.fieldLink RX5 117 "CarrierDeskModel" "rates" "I", Cond.fieldLink RX5 51 "CarrierDeskModel" "prefix" "[I", Cond.fieldLink RX5 54 "CarrierDeskModel" "day" "[I", Cond.methodLink RX5 120 yX5_fits, Cond.static yX5_fits]
def wsX5_book_r2 : List Cond := [Cond.code yX5_fits cX5_fits 3 (some .boolean)]
def wsX5_book : List Cond := .code yX5_book cX5_book 3 (some .int) :: ((wsX5_book_r1 ++ wsX5_book_r2) ++ wsX50)
def wsX5_booked : List Cond := .code yX5_booked cX5_booked 2 (some .int) :: ([.fieldLink RX5 45 "CarrierDeskModel" "booked" "[I", .methodLink RX5 111 yX5_isCall, .instanceMethod yX5_isCall, .selects RX5 yX5_isCall yX5_isCall, .initialized RX5, .code yX5_isCall cX5_isCall 2 (some .boolean), .fieldLink RX5 91 "CarrierDeskModel" "calls" "I", .methodLink RX5 87 yX5_asks, .instanceMethod yX5_asks, .selects RX5 yX5_asks yX5_asks, .code yX5_asks cX5_asks 2 (some .boolean), .fieldLink RX5 78 "CarrierDeskModel" "thrown" "I", .methodLink RX5 107 yX5_fails, .instanceMethod yX5_fails, .selects RX5 yX5_fails yX5_fails, .code yX5_fails cX5_fails 2 (some .int)] ++ wsX50)
def wsX5_correct_r1 : List Cond := [Cond.fieldLink RX5 78 "CarrierDeskModel" "thrown" "I", Cond.fieldLink RX5 91 "CarrierDeskModel" "calls" "I", Cond.fieldLink RX5 45 "CarrierDeskModel" "booked" "[I", Cond.fieldLink RX5 130 "CarrierDeskModel" "corrections" "I", Cond.methodLink RX5 127 yX5_chargeOf, Cond.instanceMethod yX5_chargeOf, Cond.selects RX5 yX5_chargeOf yX5_chargeOf, Cond.initialized RX5, Cond.code yX5_chargeOf cX5_chargeOf 5 (some .int), Cond.fieldLink RX5 30 "CarrierDeskModel" "number" "[I", Cond.fieldLink RX5 33 "CarrierDeskModel" "begin" "[I", Cond.fieldLink RX5 39 "CarrierDeskModel" "length" "[I", Cond.fieldLink RX5 60 "CarrierDeskModel" "step" "[I", Cond.fieldLink RX5 63 "CarrierDeskModel" "shortest" "[I", Cond.fieldLink RX5 66 "CarrierDeskModel" "fee" "[I", Cond.fieldLink RX5 57 "CarrierDeskModel" "price" "[I", Cond.methodLink RX5 124 yX5_rate, Cond.instanceMethod yX5_rate, Cond.selects RX5 yX5_rate yX5_rate, Cond.code yX5_rate cX5_rate 6 (some .int), Cond.fieldLink RX5 117 "CarrierDeskModel" "rates" "I", Cond.fieldLink RX5 51 "CarrierDeskModel" "prefix" "[I", Cond.fieldLink RX5 54 "CarrierDeskModel" "day" "[I", Cond.methodLink RX5 120 yX5_fits]
def wsX5_correct_r2 : List Cond := [Cond.static yX5_fits, Cond.code yX5_fits cX5_fits 3 (some .boolean)]
def wsX5_correct : List Cond := .code yX5_correct cX5_correct 4 (some .int) :: ((wsX5_correct_r1 ++ wsX5_correct_r2) ++ wsX50)
def wsX5_corrections : List Cond := .code yX5_corrections cX5_corrections 1 (some .int) :: ([.fieldLink RX5 78 "CarrierDeskModel" "thrown" "I", .fieldLink RX5 130 "CarrierDeskModel" "corrections" "I"] ++ wsX50)
def wsX5_bookedOf : List Cond := .code yX5_bookedOf cX5_bookedOf 2 (some .int) :: ([.fieldLink RX5 45 "CarrierDeskModel" "booked" "[I"] ++ wsX50)
def wsX5_total : List Cond := .code yX5_total cX5_total 4 (some .int) :: ([.fieldLink RX5 91 "CarrierDeskModel" "calls" "I", .fieldLink RX5 30 "CarrierDeskModel" "number" "[I", .methodLink RX5 114 yX5_isPrefix, .static yX5_isPrefix, .initialized RX5, .code yX5_isPrefix cX5_isPrefix 1 (some .boolean), .constant RX5 86 (99999), .methodLink RX5 82 yX5_in, .static yX5_in, .code yX5_in cX5_in 3 (some .boolean), .methodLink RX5 87 yX5_asks, .instanceMethod yX5_asks, .selects RX5 yX5_asks yX5_asks, .code yX5_asks cX5_asks 2 (some .boolean), .fieldLink RX5 78 "CarrierDeskModel" "thrown" "I", .methodLink RX5 120 yX5_fits, .static yX5_fits, .code yX5_fits cX5_fits 3 (some .boolean), .methodLink RX5 133 yX5_bookedOf, .instanceMethod yX5_bookedOf, .selects RX5 yX5_bookedOf yX5_bookedOf, .code yX5_bookedOf cX5_bookedOf 2 (some .int), .fieldLink RX5 45 "CarrierDeskModel" "booked" "[I"] ++ wsX50)
def wsX5_offer : List Cond := .code yX5_offer cX5_offer 7 (some .int) :: ([.fieldLink RX5 69 "CarrierDeskModel" "offers" "[I", .fieldLink RX5 72 "CarrierDeskModel" "offered" "[I", .fieldLink RX5 75 "CarrierDeskModel" "asked" "[I", .methodLink RX5 82 yX5_in, .static yX5_in, .initialized RX5, .code yX5_in cX5_in 3 (some .boolean), .methodLink RX5 114 yX5_isPrefix, .static yX5_isPrefix, .code yX5_isPrefix cX5_isPrefix 1 (some .boolean), .constant RX5 86 (99999), .methodLink RX5 87 yX5_asks, .instanceMethod yX5_asks, .selects RX5 yX5_asks yX5_asks, .code yX5_asks cX5_asks 2 (some .boolean), .fieldLink RX5 78 "CarrierDeskModel" "thrown" "I", .methodLink RX5 107 yX5_fails, .instanceMethod yX5_fails, .selects RX5 yX5_fails yX5_fails, .code yX5_fails cX5_fails 2 (some .int)] ++ wsX50)
def wsX5_offerOf : List Cond := .code yX5_offerOf cX5_offerOf 5 (some .int) :: ([.fieldLink RX5 69 "CarrierDeskModel" "offers" "[I", .fieldLink RX5 72 "CarrierDeskModel" "offered" "[I", .fieldLink RX5 75 "CarrierDeskModel" "asked" "[I", .methodLink RX5 120 yX5_fits, .static yX5_fits, .initialized RX5, .code yX5_fits cX5_fits 3 (some .boolean)] ++ wsX50)
def wsX5_offerFor_r1 : List Cond := [Cond.methodLink RX5 82 yX5_in, Cond.static yX5_in, Cond.initialized RX5, Cond.code yX5_in cX5_in 3 (some .boolean), Cond.methodLink RX5 98 yX5_isNumber, Cond.static yX5_isNumber, Cond.code yX5_isNumber cX5_isNumber 1 (some .boolean), Cond.constant RX5 81 (99999999), Cond.methodLink RX5 87 yX5_asks, Cond.instanceMethod yX5_asks, Cond.selects RX5 yX5_asks yX5_asks, Cond.code yX5_asks cX5_asks 2 (some .boolean), Cond.fieldLink RX5 78 "CarrierDeskModel" "thrown" "I", Cond.methodLink RX5 136 yX5_offerOf, Cond.instanceMethod yX5_offerOf, Cond.selects RX5 yX5_offerOf yX5_offerOf, Cond.code yX5_offerOf cX5_offerOf 5 (some .int), Cond.fieldLink RX5 69 "CarrierDeskModel" "offers" "[I", Cond.fieldLink RX5 72 "CarrierDeskModel" "offered" "[I", Cond.fieldLink RX5 75 "CarrierDeskModel" "asked" "[I", Cond.methodLink RX5 120 yX5_fits, Cond.static yX5_fits, Cond.code yX5_fits cX5_fits 3 (some .boolean), Cond.methodLink RX5 107 yX5_fails]
def wsX5_offerFor_r2 : List Cond := [Cond.instanceMethod yX5_fails, Cond.selects RX5 yX5_fails yX5_fails, Cond.code yX5_fails cX5_fails 2 (some .int)]
def wsX5_offerFor : List Cond := .code yX5_offerFor cX5_offerFor 4 (some .int) :: ((wsX5_offerFor_r1 ++ wsX5_offerFor_r2) ++ wsX50)
def wsX5_route_r1 : List Cond := [Cond.fieldLink RX5 57 "CarrierDeskModel" "price" "[I", Cond.methodLink RX5 98 yX5_isNumber, Cond.static yX5_isNumber, Cond.initialized RX5, Cond.code yX5_isNumber cX5_isNumber 1 (some .boolean), Cond.constant RX5 81 (99999999), Cond.methodLink RX5 82 yX5_in, Cond.static yX5_in, Cond.code yX5_in cX5_in 3 (some .boolean), Cond.methodLink RX5 87 yX5_asks, Cond.instanceMethod yX5_asks, Cond.selects RX5 yX5_asks yX5_asks, Cond.code yX5_asks cX5_asks 2 (some .boolean), Cond.fieldLink RX5 78 "CarrierDeskModel" "thrown" "I", Cond.methodLink RX5 124 yX5_rate, Cond.instanceMethod yX5_rate, Cond.selects RX5 yX5_rate yX5_rate, Cond.code yX5_rate cX5_rate 6 (some .int), Cond.fieldLink RX5 117 "CarrierDeskModel" "rates" "I", Cond.fieldLink RX5 51 "CarrierDeskModel" "prefix" "[I", Cond.fieldLink RX5 54 "CarrierDeskModel" "day" "[I", Cond.methodLink RX5 120 yX5_fits, Cond.static yX5_fits, Cond.code yX5_fits cX5_fits 3 (some .boolean)]
def wsX5_route_r2 : List Cond := [Cond.methodLink RX5 136 yX5_offerOf, Cond.instanceMethod yX5_offerOf, Cond.selects RX5 yX5_offerOf yX5_offerOf, Cond.code yX5_offerOf cX5_offerOf 5 (some .int), Cond.fieldLink RX5 69 "CarrierDeskModel" "offers" "[I", Cond.fieldLink RX5 72 "CarrierDeskModel" "offered" "[I", Cond.fieldLink RX5 75 "CarrierDeskModel" "asked" "[I", Cond.methodLink RX5 107 yX5_fails, Cond.instanceMethod yX5_fails, Cond.selects RX5 yX5_fails yX5_fails, Cond.code yX5_fails cX5_fails 2 (some .int)]
def wsX5_route : List Cond := .code yX5_route cX5_route 12 (some .int) :: ((wsX5_route_r1 ++ wsX5_route_r2) ++ wsX50)
def wsX5_claim : List Cond := .code yX5_claim cX5_claim 4 (some .int) :: ([.constant RX5 139 (1000000), .fieldLink RX5 48 "CarrierDeskModel" "claim" "[I", .methodLink RX5 111 yX5_isCall, .instanceMethod yX5_isCall, .selects RX5 yX5_isCall yX5_isCall, .initialized RX5, .code yX5_isCall cX5_isCall 2 (some .boolean), .fieldLink RX5 91 "CarrierDeskModel" "calls" "I", .methodLink RX5 87 yX5_asks, .instanceMethod yX5_asks, .selects RX5 yX5_asks yX5_asks, .code yX5_asks cX5_asks 2 (some .boolean), .fieldLink RX5 78 "CarrierDeskModel" "thrown" "I", .methodLink RX5 82 yX5_in, .static yX5_in, .code yX5_in cX5_in 3 (some .boolean), .methodLink RX5 107 yX5_fails, .instanceMethod yX5_fails, .selects RX5 yX5_fails yX5_fails, .code yX5_fails cX5_fails 2 (some .int)] ++ wsX50)
def wsX5_differs : List Cond := .code yX5_differs cX5_differs 4 (some .int) :: ([.fieldLink RX5 91 "CarrierDeskModel" "calls" "I", .fieldLink RX5 30 "CarrierDeskModel" "number" "[I", .fieldLink RX5 48 "CarrierDeskModel" "claim" "[I", .methodLink RX5 120 yX5_fits, .static yX5_fits, .initialized RX5, .code yX5_fits cX5_fits 3 (some .boolean), .methodLink RX5 133 yX5_bookedOf, .instanceMethod yX5_bookedOf, .selects RX5 yX5_bookedOf yX5_bookedOf, .code yX5_bookedOf cX5_bookedOf 2 (some .int), .fieldLink RX5 45 "CarrierDeskModel" "booked" "[I"] ++ wsX50)
def wsX5_difference_r1 : List Cond := [Cond.methodLink RX5 114 yX5_isPrefix, Cond.static yX5_isPrefix, Cond.initialized RX5, Cond.code yX5_isPrefix cX5_isPrefix 1 (some .boolean), Cond.constant RX5 86 (99999), Cond.methodLink RX5 82 yX5_in, Cond.static yX5_in, Cond.code yX5_in cX5_in 3 (some .boolean), Cond.methodLink RX5 87 yX5_asks, Cond.instanceMethod yX5_asks, Cond.selects RX5 yX5_asks yX5_asks, Cond.code yX5_asks cX5_asks 2 (some .boolean), Cond.fieldLink RX5 78 "CarrierDeskModel" "thrown" "I", Cond.methodLink RX5 140 yX5_differs, Cond.instanceMethod yX5_differs, Cond.selects RX5 yX5_differs yX5_differs, Cond.code yX5_differs cX5_differs 4 (some .int), Cond.fieldLink RX5 91 "CarrierDeskModel" "calls" "I", Cond.fieldLink RX5 30 "CarrierDeskModel" "number" "[I", Cond.fieldLink RX5 48 "CarrierDeskModel" "claim" "[I", Cond.methodLink RX5 120 yX5_fits, Cond.static yX5_fits, Cond.code yX5_fits cX5_fits 3 (some .boolean), Cond.methodLink RX5 133 yX5_bookedOf]
def wsX5_difference_r2 : List Cond := [Cond.instanceMethod yX5_bookedOf, Cond.selects RX5 yX5_bookedOf yX5_bookedOf, Cond.code yX5_bookedOf cX5_bookedOf 2 (some .int), Cond.fieldLink RX5 45 "CarrierDeskModel" "booked" "[I"]
def wsX5_difference : List Cond := .code yX5_difference cX5_difference 2 (some .int) :: ((wsX5_difference_r1 ++ wsX5_difference_r2) ++ wsX50)
def wsX5_narrow_r1 : List Cond := [Cond.methodLink RX5 82 yX5_in, Cond.static yX5_in, Cond.initialized RX5, Cond.code yX5_in cX5_in 3 (some .boolean), Cond.methodLink RX5 87 yX5_asks, Cond.instanceMethod yX5_asks, Cond.selects RX5 yX5_asks yX5_asks, Cond.code yX5_asks cX5_asks 2 (some .boolean), Cond.fieldLink RX5 78 "CarrierDeskModel" "thrown" "I", Cond.methodLink RX5 140 yX5_differs, Cond.instanceMethod yX5_differs, Cond.selects RX5 yX5_differs yX5_differs, Cond.code yX5_differs cX5_differs 4 (some .int), Cond.fieldLink RX5 91 "CarrierDeskModel" "calls" "I", Cond.fieldLink RX5 30 "CarrierDeskModel" "number" "[I", Cond.fieldLink RX5 48 "CarrierDeskModel" "claim" "[I", Cond.methodLink RX5 120 yX5_fits, Cond.static yX5_fits, Cond.code yX5_fits cX5_fits 3 (some .boolean), Cond.methodLink RX5 133 yX5_bookedOf, Cond.instanceMethod yX5_bookedOf, Cond.selects RX5 yX5_bookedOf yX5_bookedOf, Cond.code yX5_bookedOf cX5_bookedOf 2 (some .int), Cond.fieldLink RX5 45 "CarrierDeskModel" "booked" "[I"]
def wsX5_narrow_r2 : List Cond := [Cond.methodLink RX5 94 yX5_apart, Cond.static yX5_apart, Cond.code yX5_apart cX5_apart 2 (some .int)]
def wsX5_narrow : List Cond := .code yX5_narrow cX5_narrow 7 (some .int) :: ((wsX5_narrow_r1 ++ wsX5_narrow_r2) ++ wsX50)
def wsX5_worst : List Cond := .code yX5_worst cX5_worst 3 (some .int) :: ([.fieldLink RX5 91 "CarrierDeskModel" "calls" "I", .fieldLink RX5 48 "CarrierDeskModel" "claim" "[I", .methodLink RX5 133 yX5_bookedOf, .instanceMethod yX5_bookedOf, .selects RX5 yX5_bookedOf yX5_bookedOf, .initialized RX5, .code yX5_bookedOf cX5_bookedOf 2 (some .int), .fieldLink RX5 45 "CarrierDeskModel" "booked" "[I", .methodLink RX5 94 yX5_apart, .static yX5_apart, .code yX5_apart cX5_apart 2 (some .int), .methodLink RX5 87 yX5_asks, .instanceMethod yX5_asks, .selects RX5 yX5_asks yX5_asks, .code yX5_asks cX5_asks 2 (some .boolean), .fieldLink RX5 78 "CarrierDeskModel" "thrown" "I"] ++ wsX50)
def wsJ9_abs_0f7a4 : List Cond := .code yJ9_abs_0f7a4 cJ9_abs_0f7a4 1 (some .int) :: ([])
def wsJ9_max_7cf53 : List Cond := .code yJ9_max_7cf53 cJ9_max_7cf53 2 (some .int) :: ([])
def wsJ9_min_7cf53 : List Cond := .code yJ9_min_7cf53 cJ9_min_7cf53 2 (some .int) :: ([])
def wsL_setBound : List Cond := .codeWith yL_setBound cL_setBound 4 (some .int) [(0, 9, 12, 13)] :: ([.classLink RL 13 "java/lang/IllegalArgumentException", .methodLink RL 7 yX4_setBound, .instanceMethod yX4_setBound, .selects RX4 yX4_setBound yX4_setBound, .initialized RX4, .code yX4_setBound cX4_setBound 3 (some .int), .classLink RX4 43 "java/lang/IllegalArgumentException", .initialized "java/lang/IllegalArgumentException", .fieldLink RX4 21 "CarrierDesk" "bound" "I", .methodLink RX4 39 yX4_within, .static yX4_within, .code yX4_within cX4_within 3 (some .boolean)] ++ wsX40 ++ (vx_atS RX4 47 "java/lang/IllegalArgumentException" ["java/lang/RuntimeException", "java/lang/Exception"]).filter goodWord)
def wsL_record_r1 : List Cond := [Cond.classLink RL 13 "java/lang/IllegalArgumentException", Cond.classLink RL 19 "java/lang/IllegalStateException", Cond.methodLink RL 15 yX4_record, Cond.instanceMethod yX4_record, Cond.selects RX4 yX4_record yX4_record, Cond.initialized RX4, Cond.code yX4_record cX4_record 8 (some .int), Cond.classLink RX4 43 "java/lang/IllegalArgumentException", Cond.initialized "java/lang/IllegalArgumentException", Cond.classLink RX4 75 "java/lang/IllegalStateException", Cond.initialized "java/lang/IllegalStateException", Cond.constant RX4 58 (999999), Cond.fieldLink RX4 64 "CarrierDesk$Source" "doubleCount" "I", Cond.fieldLink RX4 88 "CarrierDesk$Call" "id" "I", Cond.methodLink RX4 50 yX4_sourceAt, Cond.instanceMethod yX4_sourceAt, Cond.selects RX4 yX4_sourceAt yX4_sourceAt, Cond.code yX4_sourceAt cX4_sourceAt 2 (some (.object "CarrierDesk$Source")), Cond.fieldLink RX4 11 "CarrierDesk" "sources" "[LCarrierDesk$Source;", Cond.methodLink RX4 39 yX4_within, Cond.static yX4_within, Cond.code yX4_within cX4_within 3 (some .boolean), Cond.methodLink RX4 54 yX4_isNumber, Cond.static yX4_isNumber]
def wsL_record_r2 : List Cond := [Cond.code yX4_isNumber cX4_isNumber 1 (some .boolean), Cond.constant RX4 234 (99999999), Cond.methodLink RX4 61 yX3_has, Cond.instanceMethod yX3_has, Cond.selects RX3 yX3_has yX3_has, Cond.initialized RX3, Cond.code yX3_has cX3_has 3 (some .boolean), Cond.fieldLink RX3 11 "CarrierDesk$Source" "delivered" "[J", Cond.methodLink RX3 19 yX3_bitOf, Cond.static yX3_bitOf, Cond.code yX3_bitOf cX3_bitOf 1 (some .long), Cond.methodLink RX4 67 yX4_callJoinedBy, Cond.instanceMethod yX4_callJoinedBy, Cond.selects RX4 yX4_callJoinedBy yX4_callJoinedBy, Cond.code yX4_callJoinedBy cX4_callJoinedBy 9 (some (.object "CarrierDesk$Call")), Cond.fieldLink RX4 17 "CarrierDesk" "calls" "[LCarrierDesk$Call;", Cond.fieldLink RX4 166 "CarrierDesk$Call" "number" "I", Cond.fieldLink RX4 21 "CarrierDesk" "bound" "I", Cond.methodLink RX4 236 yX0_hasLegFrom, Cond.instanceMethod yX0_hasLegFrom, Cond.selects RX0 yX0_hasLegFrom yX0_hasLegFrom, Cond.initialized RX0, Cond.code yX0_hasLegFrom cX0_hasLegFrom 2 (some .boolean), Cond.fieldLink RX0 27 "CarrierDesk$Call" "sourceBits" "I"]
def wsL_record_r3 : List Cond := [Cond.methodLink RX4 239 yX0_beganWithin, Cond.instanceMethod yX0_beganWithin, Cond.selects RX0 yX0_beganWithin yX0_beganWithin, Cond.code yX0_beganWithin cX0_beganWithin 4 (some .boolean), Cond.fieldLink RX0 21 "CarrierDesk$Call" "firstBegin" "I", Cond.methodLink RX0 30 Lib.Math.abs.name, Cond.static Lib.Math.abs.name, Cond.initialized "java/lang/Math", Cond.code Lib.Math.abs.name Lib.Math.abs.code 1 (some .int), Cond.fieldLink RX0 24 "CarrierDesk$Call" "firstSeconds" "I", Cond.methodLink RX4 71 yX4_newCall, Cond.instanceMethod yX4_newCall, Cond.selects RX4 yX4_newCall yX4_newCall, Cond.code yX4_newCall cX4_newCall 6 (some (.object "CarrierDesk$Call")), Cond.fieldLink RX4 97 "CarrierDesk" "callCount" "I", Cond.classLink RX4 15 RX0, Cond.instantiable RX0 8, Cond.methodLink RX4 242 yX0_init, Cond.instanceMethod yX0_init, Cond.code yX0_init cX0_init 5 none, Cond.methodLink RX0 3 objectInit, Cond.instanceMethod objectInit, Cond.code objectInit ⟨#[0xb1]⟩ 1 none, Cond.fieldLink RX0 9 "CarrierDesk$Call" "bookedAmount" "I"]
def wsL_record_r4 : List Cond := [Cond.fieldLink RX0 15 "CarrierDesk$Call" "id" "I", Cond.fieldLink RX0 18 "CarrierDesk$Call" "number" "I", Cond.methodLink RX4 80 yX3_add, Cond.instanceMethod yX3_add, Cond.selects RX3 yX3_add yX3_add, Cond.code yX3_add cX3_add 3 none, Cond.fieldLink RX3 23 "CarrierDesk$Source" "deliveredCount" "I", Cond.fieldLink RX3 15 "CarrierDesk$Source" "least" "I", Cond.methodLink RX3 26 Lib.Math.min.name, Cond.static Lib.Math.min.name, Cond.code Lib.Math.min.name Lib.Math.min.code 2 (some .int), Cond.fieldLink RX3 32 "CarrierDesk$Source" "greatest" "I", Cond.methodLink RX3 35 Lib.Math.max.name, Cond.static Lib.Math.max.name, Cond.code Lib.Math.max.name Lib.Math.max.code 2 (some .int), Cond.methodLink RX4 84 yX0_addLeg, Cond.instanceMethod yX0_addLeg, Cond.selects RX0 yX0_addLeg yX0_addLeg, Cond.code yX0_addLeg cX0_addLeg 3 none, Cond.fieldLink RX0 36 "CarrierDesk$Call" "seconds" "I", Cond.methodLink RX0 39 Lib.Math.max.name]
def wsL_record : List Cond := .codeWith yL_record cL_record 8 (some .int) [(0, 16, 19, 13), (0, 16, 23, 19)] :: ((wsL_record_r1 ++ (wsL_record_r2 ++ (wsL_record_r3 ++ wsL_record_r4))) ++ wsX30 ++ wsX00 ++ wsX40 ++ (vx_atS RX4 47 "java/lang/IllegalArgumentException" ["java/lang/RuntimeException", "java/lang/Exception"]).filter goodWord ++ (vx_atS RX4 79 "java/lang/IllegalStateException" ["java/lang/RuntimeException", "java/lang/Exception"]).filter goodWord)
def wsL_gaps : List Cond := .codeWith yL_gaps cL_gaps 4 (some .int) [(0, 9, 12, 13)] :: ([.classLink RL 13 "java/lang/IllegalArgumentException", .methodLink RL 21 yX4_gaps, .instanceMethod yX4_gaps, .selects RX4 yX4_gaps yX4_gaps, .initialized RX4, .code yX4_gaps cX4_gaps 3 (some .int), .classLink RX4 43 "java/lang/IllegalArgumentException", .initialized "java/lang/IllegalArgumentException", .methodLink RX4 50 yX4_sourceAt, .instanceMethod yX4_sourceAt, .selects RX4 yX4_sourceAt yX4_sourceAt, .code yX4_sourceAt cX4_sourceAt 2 (some (.object "CarrierDesk$Source")), .fieldLink RX4 11 "CarrierDesk" "sources" "[LCarrierDesk$Source;", .methodLink RX4 93 yX3_missing, .instanceMethod yX3_missing, .selects RX3 yX3_missing yX3_missing, .initialized RX3, .code yX3_missing cX3_missing 1 (some .int), .fieldLink RX3 23 "CarrierDesk$Source" "deliveredCount" "I", .fieldLink RX3 32 "CarrierDesk$Source" "greatest" "I", .fieldLink RX3 15 "CarrierDesk$Source" "least" "I"] ++ wsX40 ++ wsX30 ++ (vx_atS RX4 47 "java/lang/IllegalArgumentException" ["java/lang/RuntimeException", "java/lang/Exception"]).filter goodWord)
def wsL_doubles : List Cond := .codeWith yL_doubles cL_doubles 4 (some .int) [(0, 9, 12, 13)] :: ([.classLink RL 13 "java/lang/IllegalArgumentException", .methodLink RL 24 yX4_doubles, .instanceMethod yX4_doubles, .selects RX4 yX4_doubles yX4_doubles, .initialized RX4, .code yX4_doubles cX4_doubles 3 (some .int), .classLink RX4 43 "java/lang/IllegalArgumentException", .initialized "java/lang/IllegalArgumentException", .fieldLink RX4 64 "CarrierDesk$Source" "doubleCount" "I", .methodLink RX4 50 yX4_sourceAt, .instanceMethod yX4_sourceAt, .selects RX4 yX4_sourceAt yX4_sourceAt, .code yX4_sourceAt cX4_sourceAt 2 (some (.object "CarrierDesk$Source")), .fieldLink RX4 11 "CarrierDesk" "sources" "[LCarrierDesk$Source;"] ++ wsX30 ++ wsX40 ++ (vx_atS RX4 47 "java/lang/IllegalArgumentException" ["java/lang/RuntimeException", "java/lang/Exception"]).filter goodWord)
def wsL_legs : List Cond := .codeWith yL_legs cL_legs 4 (some .int) [(0, 9, 12, 30)] :: ([.classLink RL 30 "java/lang/IndexOutOfBoundsException", .methodLink RL 27 yX4_legs, .instanceMethod yX4_legs, .selects RX4 yX4_legs yX4_legs, .initialized RX4, .code yX4_legs cX4_legs 3 (some .int), .classLink RX4 104 "java/lang/IndexOutOfBoundsException", .initialized "java/lang/IndexOutOfBoundsException", .fieldLink RX4 109 "CarrierDesk$Call" "sourceBits" "I", .methodLink RX4 100 yX4_callAt, .instanceMethod yX4_callAt, .selects RX4 yX4_callAt yX4_callAt, .code yX4_callAt cX4_callAt 2 (some (.object "CarrierDesk$Call")), .fieldLink RX4 17 "CarrierDesk" "calls" "[LCarrierDesk$Call;"] ++ wsX00 ++ wsX40 ++ (vx_atS RX4 108 "java/lang/IndexOutOfBoundsException" ["java/lang/RuntimeException", "java/lang/Exception"]).filter goodWord)
def wsL_length : List Cond := .codeWith yL_length cL_length 4 (some .int) [(0, 9, 12, 30)] :: ([.classLink RL 30 "java/lang/IndexOutOfBoundsException", .methodLink RL 32 yX4_length, .instanceMethod yX4_length, .selects RX4 yX4_length yX4_length, .initialized RX4, .code yX4_length cX4_length 3 (some .int), .classLink RX4 104 "java/lang/IndexOutOfBoundsException", .initialized "java/lang/IndexOutOfBoundsException", .fieldLink RX4 112 "CarrierDesk$Call" "seconds" "I", .methodLink RX4 100 yX4_callAt, .instanceMethod yX4_callAt, .selects RX4 yX4_callAt yX4_callAt, .code yX4_callAt cX4_callAt 2 (some (.object "CarrierDesk$Call")), .fieldLink RX4 17 "CarrierDesk" "calls" "[LCarrierDesk$Call;"] ++ wsX00 ++ wsX40 ++ (vx_atS RX4 108 "java/lang/IndexOutOfBoundsException" ["java/lang/RuntimeException", "java/lang/Exception"]).filter goodWord)
def wsL_addRate_r1 : List Cond := [Cond.classLink RL 13 "java/lang/IllegalArgumentException", Cond.classLink RL 19 "java/lang/IllegalStateException", Cond.methodLink RL 35 yX4_addRate, Cond.instanceMethod yX4_addRate, Cond.selects RX4 yX4_addRate yX4_addRate, Cond.initialized RX4, Cond.code yX4_addRate cX4_addRate 8 (some .int), Cond.classLink RX4 43 "java/lang/IllegalArgumentException", Cond.initialized "java/lang/IllegalArgumentException", Cond.classLink RX4 75 "java/lang/IllegalStateException", Cond.initialized "java/lang/IllegalStateException", Cond.fieldLink RX4 123 "CarrierDesk" "rateCount" "I", Cond.fieldLink RX4 27 "CarrierDesk" "rates" "[LCarrierDesk$Rate;", Cond.classLink RX4 25 RX2, Cond.instantiable RX2 7, Cond.initialized RX2, Cond.methodLink RX4 115 yX4_isPrefix, Cond.static yX4_isPrefix, Cond.code yX4_isPrefix cX4_isPrefix 1 (some .boolean), Cond.constant RX4 235 (99999), Cond.methodLink RX4 39 yX4_within, Cond.static yX4_within, Cond.code yX4_within cX4_within 3 (some .boolean), Cond.methodLink RX4 118 yX4_isDay]
def wsL_addRate_r2 : List Cond := [Cond.static yX4_isDay, Cond.code yX4_isDay cX4_isDay 1 (some .boolean), Cond.methodLink RX4 128 yX2_init, Cond.instanceMethod yX2_init, Cond.code yX2_init cX2_init 8 none, Cond.methodLink RX2 3 objectInit, Cond.instanceMethod objectInit, Cond.code objectInit ⟨#[0xb1]⟩ 1 none, Cond.fieldLink RX2 9 "CarrierDesk$Rate" "id" "I", Cond.fieldLink RX2 15 "CarrierDesk$Rate" "prefix" "I", Cond.fieldLink RX2 18 "CarrierDesk$Rate" "day" "I", Cond.fieldLink RX2 21 "CarrierDesk$Rate" "price" "I", Cond.fieldLink RX2 24 "CarrierDesk$Rate" "step" "I", Cond.fieldLink RX2 27 "CarrierDesk$Rate" "least" "I", Cond.fieldLink RX2 30 "CarrierDesk$Rate" "fee" "I"]
def wsL_addRate : List Cond := .codeWith yL_addRate cL_addRate 9 (some .int) [(0, 18, 21, 13), (0, 18, 25, 19)] :: ((wsL_addRate_r1 ++ wsL_addRate_r2) ++ wsX40 ++ wsX20 ++ (vx_atS RX4 47 "java/lang/IllegalArgumentException" ["java/lang/RuntimeException", "java/lang/Exception"]).filter goodWord ++ (vx_atS RX4 79 "java/lang/IllegalStateException" ["java/lang/RuntimeException", "java/lang/Exception"]).filter goodWord)
def wsL_rateFor_r1 : List Cond := [Cond.classLink RL 13 "java/lang/IllegalArgumentException", Cond.classLink RL 43 "java/util/NoSuchElementException", Cond.methodLink RL 39 yX4_rateFor, Cond.instanceMethod yX4_rateFor, Cond.selects RX4 yX4_rateFor yX4_rateFor, Cond.initialized RX4, Cond.code yX4_rateFor cX4_rateFor 4 (some .int), Cond.classLink RX4 43 "java/lang/IllegalArgumentException", Cond.initialized "java/lang/IllegalArgumentException", Cond.classLink RX4 137 "java/util/NoSuchElementException", Cond.initialized "java/util/NoSuchElementException", Cond.fieldLink RX4 142 "CarrierDesk$Rate" "id" "I", Cond.methodLink RX4 54 yX4_isNumber, Cond.static yX4_isNumber, Cond.code yX4_isNumber cX4_isNumber 1 (some .boolean), Cond.constant RX4 234 (99999999), Cond.methodLink RX4 39 yX4_within, Cond.static yX4_within, Cond.code yX4_within cX4_within 3 (some .boolean), Cond.methodLink RX4 118 yX4_isDay, Cond.static yX4_isDay, Cond.code yX4_isDay cX4_isDay 1 (some .boolean), Cond.methodLink RX4 133 yX4_rateInForce, Cond.instanceMethod yX4_rateInForce]
def wsL_rateFor_r2 : List Cond := [Cond.selects RX4 yX4_rateInForce yX4_rateInForce, Cond.code yX4_rateInForce cX4_rateInForce 8 (some (.object "CarrierDesk$Rate")), Cond.fieldLink RX4 27 "CarrierDesk" "rates" "[LCarrierDesk$Rate;", Cond.fieldLink RX4 245 "CarrierDesk$Rate" "day" "I", Cond.fieldLink RX4 248 "CarrierDesk$Rate" "prefix" "I", Cond.methodLink RX4 169 yX4_fits, Cond.static yX4_fits, Cond.code yX4_fits cX4_fits 4 (some .boolean), Cond.methodLink RX4 251 yX2_goesBefore, Cond.instanceMethod yX2_goesBefore, Cond.selects RX2 yX2_goesBefore yX2_goesBefore, Cond.initialized RX2, Cond.code yX2_goesBefore cX2_goesBefore 2 (some .boolean), Cond.fieldLink RX2 15 "CarrierDesk$Rate" "prefix" "I", Cond.fieldLink RX2 18 "CarrierDesk$Rate" "day" "I", Cond.fieldLink RX2 9 "CarrierDesk$Rate" "id" "I"]
def wsL_rateFor : List Cond := .codeWith yL_rateFor cL_rateFor 5 (some .int) [(0, 10, 13, 13), (0, 10, 17, 43)] :: ((wsL_rateFor_r1 ++ wsL_rateFor_r2) ++ wsX20 ++ wsX40 ++ (vx_atS RX4 47 "java/lang/IllegalArgumentException" ["java/lang/RuntimeException", "java/lang/Exception"]).filter goodWord ++ (vx_atS RX4 141 "java/util/NoSuchElementException" ["java/lang/RuntimeException", "java/lang/Exception"]).filter goodWord)
def wsL_charge_r1 : List Cond := [Cond.classLink RL 30 "java/lang/IndexOutOfBoundsException", Cond.classLink RL 43 "java/util/NoSuchElementException", Cond.methodLink RL 45 yX4_charge, Cond.instanceMethod yX4_charge, Cond.selects RX4 yX4_charge yX4_charge, Cond.initialized RX4, Cond.code yX4_charge cX4_charge 4 (some .int), Cond.classLink RX4 104 "java/lang/IndexOutOfBoundsException", Cond.initialized "java/lang/IndexOutOfBoundsException", Cond.classLink RX4 137 "java/util/NoSuchElementException", Cond.initialized "java/util/NoSuchElementException", Cond.methodLink RX4 100 yX4_callAt, Cond.instanceMethod yX4_callAt, Cond.selects RX4 yX4_callAt yX4_callAt, Cond.code yX4_callAt cX4_callAt 2 (some (.object "CarrierDesk$Call")), Cond.fieldLink RX4 17 "CarrierDesk" "calls" "[LCarrierDesk$Call;", Cond.methodLink RX4 143 yX4_chargeNow, Cond.instanceMethod yX4_chargeNow, Cond.selects RX4 yX4_chargeNow yX4_chargeNow, Cond.code yX4_chargeNow cX4_chargeNow 3 (some .int), Cond.fieldLink RX4 166 "CarrierDesk$Call" "number" "I", Cond.fieldLink RX4 112 "CarrierDesk$Call" "seconds" "I", Cond.methodLink RX4 255 yX0_day, Cond.instanceMethod yX0_day]
def wsL_charge_r2 : List Cond := [Cond.selects RX0 yX0_day yX0_day, Cond.initialized RX0, Cond.code yX0_day cX0_day 1 (some .int), Cond.fieldLink RX0 21 "CarrierDesk$Call" "firstBegin" "I", Cond.methodLink RX4 133 yX4_rateInForce, Cond.instanceMethod yX4_rateInForce, Cond.selects RX4 yX4_rateInForce yX4_rateInForce, Cond.code yX4_rateInForce cX4_rateInForce 8 (some (.object "CarrierDesk$Rate")), Cond.fieldLink RX4 27 "CarrierDesk" "rates" "[LCarrierDesk$Rate;", Cond.fieldLink RX4 245 "CarrierDesk$Rate" "day" "I", Cond.fieldLink RX4 248 "CarrierDesk$Rate" "prefix" "I", Cond.methodLink RX4 169 yX4_fits, Cond.static yX4_fits, Cond.code yX4_fits cX4_fits 4 (some .boolean), Cond.methodLink RX4 251 yX2_goesBefore, Cond.instanceMethod yX2_goesBefore, Cond.selects RX2 yX2_goesBefore yX2_goesBefore, Cond.initialized RX2, Cond.code yX2_goesBefore cX2_goesBefore 2 (some .boolean), Cond.fieldLink RX2 15 "CarrierDesk$Rate" "prefix" "I", Cond.fieldLink RX2 18 "CarrierDesk$Rate" "day" "I", Cond.fieldLink RX2 9 "CarrierDesk$Rate" "id" "I", Cond.methodLink RX4 257 yX2_chargeFor, Cond.instanceMethod yX2_chargeFor]
def wsL_charge_r3 : List Cond := [Cond.selects RX2 yX2_chargeFor yX2_chargeFor, Cond.code yX2_chargeFor cX2_chargeFor 3 (some .int), Cond.fieldLink RX2 24 "CarrierDesk$Rate" "step" "I", Cond.fieldLink RX2 27 "CarrierDesk$Rate" "least" "I", Cond.methodLink RX2 37 Lib.Math.max.name, Cond.static Lib.Math.max.name, Cond.initialized "java/lang/Math", Cond.code Lib.Math.max.name Lib.Math.max.code 2 (some .int), Cond.fieldLink RX2 30 "CarrierDesk$Rate" "fee" "I", Cond.fieldLink RX2 21 "CarrierDesk$Rate" "price" "I", Cond.methodLink RX2 33 yX2_quotientUp, Cond.static yX2_quotientUp, Cond.code yX2_quotientUp cX2_quotientUp 2 (some .int)]
def wsL_charge : List Cond := .codeWith yL_charge cL_charge 4 (some .int) [(0, 9, 12, 30), (0, 9, 15, 43)] :: ((wsL_charge_r1 ++ (wsL_charge_r2 ++ wsL_charge_r3)) ++ wsX40 ++ wsX00 ++ wsX20 ++ (vx_atS RX4 108 "java/lang/IndexOutOfBoundsException" ["java/lang/RuntimeException", "java/lang/Exception"]).filter goodWord ++ (vx_atS RX4 141 "java/util/NoSuchElementException" ["java/lang/RuntimeException", "java/lang/Exception"]).filter goodWord)
def wsL_booked : List Cond := .codeWith yL_booked cL_booked 4 (some .int) [(0, 9, 12, 30), (0, 9, 15, 43)] :: ([.classLink RL 30 "java/lang/IndexOutOfBoundsException", .classLink RL 43 "java/util/NoSuchElementException", .methodLink RL 48 yX4_booked, .instanceMethod yX4_booked, .selects RX4 yX4_booked yX4_booked, .initialized RX4, .code yX4_booked cX4_booked 3 (some .int), .classLink RX4 104 "java/lang/IndexOutOfBoundsException", .initialized "java/lang/IndexOutOfBoundsException", .classLink RX4 137 "java/util/NoSuchElementException", .initialized "java/util/NoSuchElementException", .fieldLink RX4 153 "CarrierDesk$Call" "bookedAmount" "I", .methodLink RX4 100 yX4_callAt, .instanceMethod yX4_callAt, .selects RX4 yX4_callAt yX4_callAt, .code yX4_callAt cX4_callAt 2 (some (.object "CarrierDesk$Call")), .fieldLink RX4 17 "CarrierDesk" "calls" "[LCarrierDesk$Call;", .methodLink RX4 149 yX0_isBooked, .instanceMethod yX0_isBooked, .selects RX0 yX0_isBooked yX0_isBooked, .initialized RX0, .code yX0_isBooked cX0_isBooked 1 (some .boolean), .fieldLink RX0 9 "CarrierDesk$Call" "bookedAmount" "I"] ++ wsX00 ++ wsX40 ++ (vx_atS RX4 108 "java/lang/IndexOutOfBoundsException" ["java/lang/RuntimeException", "java/lang/Exception"]).filter goodWord ++ (vx_atS RX4 141 "java/util/NoSuchElementException" ["java/lang/RuntimeException", "java/lang/Exception"]).filter goodWord)
def wsL_total_r1 : List Cond := [Cond.classLink RL 13 "java/lang/IllegalArgumentException", Cond.methodLink RL 51 yX4_total, Cond.instanceMethod yX4_total, Cond.selects RX4 yX4_total yX4_total, Cond.initialized RX4, Cond.code yX4_total cX4_total 7 (some .int), Cond.classLink RX4 43 "java/lang/IllegalArgumentException", Cond.initialized "java/lang/IllegalArgumentException", Cond.fieldLink RX4 17 "CarrierDesk" "calls" "[LCarrierDesk$Call;", Cond.fieldLink RX4 166 "CarrierDesk$Call" "number" "I", Cond.methodLink RX4 115 yX4_isPrefix, Cond.static yX4_isPrefix, Cond.code yX4_isPrefix cX4_isPrefix 1 (some .boolean), Cond.constant RX4 235 (99999), Cond.methodLink RX4 39 yX4_within, Cond.static yX4_within, Cond.code yX4_within cX4_within 3 (some .boolean), Cond.methodLink RX4 169 yX4_fits, Cond.static yX4_fits, Cond.code yX4_fits cX4_fits 4 (some .boolean), Cond.methodLink RX4 173 yX0_bookedOrZero, Cond.instanceMethod yX0_bookedOrZero, Cond.selects RX0 yX0_bookedOrZero yX0_bookedOrZero, Cond.initialized RX0]
def wsL_total_r2 : List Cond := [Cond.code yX0_bookedOrZero cX0_bookedOrZero 1 (some .int), Cond.fieldLink RX0 9 "CarrierDesk$Call" "bookedAmount" "I", Cond.methodLink RX0 43 yX0_isBooked, Cond.instanceMethod yX0_isBooked, Cond.selects RX0 yX0_isBooked yX0_isBooked, Cond.code yX0_isBooked cX0_isBooked 1 (some .boolean)]
def wsL_total : List Cond := .codeWith yL_total cL_total 4 (some .int) [(0, 9, 12, 13)] :: ((wsL_total_r1 ++ wsL_total_r2) ++ wsX40 ++ wsX00 ++ (vx_atS RX4 47 "java/lang/IllegalArgumentException" ["java/lang/RuntimeException", "java/lang/Exception"]).filter goodWord)
def wsL_offer_r1 : List Cond := [Cond.classLink RL 13 "java/lang/IllegalArgumentException", Cond.classLink RL 19 "java/lang/IllegalStateException", Cond.methodLink RL 54 yX4_offer, Cond.instanceMethod yX4_offer, Cond.selects RX4 yX4_offer yX4_offer, Cond.initialized RX4, Cond.code yX4_offer cX4_offer 5 (some .int), Cond.classLink RX4 43 "java/lang/IllegalArgumentException", Cond.initialized "java/lang/IllegalArgumentException", Cond.classLink RX4 75 "java/lang/IllegalStateException", Cond.initialized "java/lang/IllegalStateException", Cond.methodLink RX4 176 yX4_carrierAt, Cond.instanceMethod yX4_carrierAt, Cond.selects RX4 yX4_carrierAt yX4_carrierAt, Cond.code yX4_carrierAt cX4_carrierAt 2 (some (.object "CarrierDesk$Carrier")), Cond.fieldLink RX4 33 "CarrierDesk" "carriers" "[LCarrierDesk$Carrier;", Cond.methodLink RX4 115 yX4_isPrefix, Cond.static yX4_isPrefix, Cond.code yX4_isPrefix cX4_isPrefix 1 (some .boolean), Cond.constant RX4 235 (99999), Cond.methodLink RX4 39 yX4_within, Cond.static yX4_within, Cond.code yX4_within cX4_within 3 (some .boolean), Cond.methodLink RX4 182 yX1_hasPlaceFor]
def wsL_offer_r2 : List Cond := [Cond.instanceMethod yX1_hasPlaceFor, Cond.selects RX1 yX1_hasPlaceFor yX1_hasPlaceFor, Cond.initialized RX1, Cond.code yX1_hasPlaceFor cX1_hasPlaceFor 2 (some .boolean), Cond.methodLink RX1 18 yX1_placeOf, Cond.instanceMethod yX1_placeOf, Cond.selects RX1 yX1_placeOf yX1_placeOf, Cond.code yX1_placeOf cX1_placeOf 3 (some .int), Cond.fieldLink RX1 9 "CarrierDesk$Carrier" "prefixes" "[I", Cond.methodLink RX4 187 yX1_replacePrice, Cond.instanceMethod yX1_replacePrice, Cond.selects RX1 yX1_replacePrice yX1_replacePrice, Cond.code yX1_replacePrice cX1_replacePrice 5 (some .int), Cond.fieldLink RX1 15 "CarrierDesk$Carrier" "prices" "[I"]
def wsL_offer : List Cond := .codeWith yL_offer cL_offer 6 (some .int) [(0, 12, 15, 13), (0, 12, 19, 19)] :: ((wsL_offer_r1 ++ wsL_offer_r2) ++ wsX40 ++ wsX10 ++ (vx_atS RX4 47 "java/lang/IllegalArgumentException" ["java/lang/RuntimeException", "java/lang/Exception"]).filter goodWord ++ (vx_atS RX4 79 "java/lang/IllegalStateException" ["java/lang/RuntimeException", "java/lang/Exception"]).filter goodWord)
def wsL_offerFor_r1 : List Cond := [Cond.classLink RL 13 "java/lang/IllegalArgumentException", Cond.classLink RL 43 "java/util/NoSuchElementException", Cond.methodLink RL 58 yX4_offerFor, Cond.instanceMethod yX4_offerFor, Cond.selects RX4 yX4_offerFor yX4_offerFor, Cond.initialized RX4, Cond.code yX4_offerFor cX4_offerFor 5 (some .int), Cond.classLink RX4 43 "java/lang/IllegalArgumentException", Cond.initialized "java/lang/IllegalArgumentException", Cond.classLink RX4 137 "java/util/NoSuchElementException", Cond.initialized "java/util/NoSuchElementException", Cond.methodLink RX4 176 yX4_carrierAt, Cond.instanceMethod yX4_carrierAt, Cond.selects RX4 yX4_carrierAt yX4_carrierAt, Cond.code yX4_carrierAt cX4_carrierAt 2 (some (.object "CarrierDesk$Carrier")), Cond.fieldLink RX4 33 "CarrierDesk" "carriers" "[LCarrierDesk$Carrier;", Cond.methodLink RX4 54 yX4_isNumber, Cond.static yX4_isNumber, Cond.code yX4_isNumber cX4_isNumber 1 (some .boolean), Cond.constant RX4 234 (99999999), Cond.methodLink RX4 39 yX4_within, Cond.static yX4_within, Cond.code yX4_within cX4_within 3 (some .boolean), Cond.methodLink RX4 193 yX1_priceFor]
def wsL_offerFor_r2 : List Cond := [Cond.instanceMethod yX1_priceFor, Cond.selects RX1 yX1_priceFor yX1_priceFor, Cond.initialized RX1, Cond.code yX1_priceFor cX1_priceFor 5 (some .int), Cond.fieldLink RX1 9 "CarrierDesk$Carrier" "prefixes" "[I", Cond.fieldLink RX1 15 "CarrierDesk$Carrier" "prices" "[I", Cond.static yX4_fits, Cond.code yX4_fits cX4_fits 4 (some .boolean)]
def wsL_offerFor : List Cond := .codeWith yL_offerFor cL_offerFor 5 (some .int) [(0, 10, 13, 13), (0, 10, 17, 43)] :: ((wsL_offerFor_r1 ++ wsL_offerFor_r2) ++ wsX40 ++ wsX10 ++ (vx_atS RX4 47 "java/lang/IllegalArgumentException" ["java/lang/RuntimeException", "java/lang/Exception"]).filter goodWord ++ (vx_atS RX4 141 "java/util/NoSuchElementException" ["java/lang/RuntimeException", "java/lang/Exception"]).filter goodWord)
def wsL_route_r1 : List Cond := [Cond.classLink RL 13 "java/lang/IllegalArgumentException", Cond.classLink RL 43 "java/util/NoSuchElementException", Cond.methodLink RL 61 yX4_route, Cond.instanceMethod yX4_route, Cond.selects RX4 yX4_route yX4_route, Cond.initialized RX4, Cond.code yX4_route cX4_route 7 (some .int), Cond.classLink RX4 43 "java/lang/IllegalArgumentException", Cond.initialized "java/lang/IllegalArgumentException", Cond.classLink RX4 137 "java/util/NoSuchElementException", Cond.initialized "java/util/NoSuchElementException", Cond.fieldLink RX4 201 "CarrierDesk$Rate" "price" "I", Cond.methodLink RX4 54 yX4_isNumber, Cond.static yX4_isNumber, Cond.code yX4_isNumber cX4_isNumber 1 (some .boolean), Cond.constant RX4 234 (99999999), Cond.methodLink RX4 39 yX4_within, Cond.static yX4_within, Cond.code yX4_within cX4_within 3 (some .boolean), Cond.methodLink RX4 118 yX4_isDay, Cond.static yX4_isDay, Cond.code yX4_isDay cX4_isDay 1 (some .boolean), Cond.methodLink RX4 133 yX4_rateInForce, Cond.instanceMethod yX4_rateInForce]
def wsL_route_r2 : List Cond := [Cond.selects RX4 yX4_rateInForce yX4_rateInForce, Cond.code yX4_rateInForce cX4_rateInForce 8 (some (.object "CarrierDesk$Rate")), Cond.fieldLink RX4 27 "CarrierDesk" "rates" "[LCarrierDesk$Rate;", Cond.fieldLink RX4 245 "CarrierDesk$Rate" "day" "I", Cond.fieldLink RX4 248 "CarrierDesk$Rate" "prefix" "I", Cond.methodLink RX4 169 yX4_fits, Cond.static yX4_fits, Cond.code yX4_fits cX4_fits 4 (some .boolean), Cond.methodLink RX4 251 yX2_goesBefore, Cond.instanceMethod yX2_goesBefore, Cond.selects RX2 yX2_goesBefore yX2_goesBefore, Cond.initialized RX2, Cond.code yX2_goesBefore cX2_goesBefore 2 (some .boolean), Cond.fieldLink RX2 15 "CarrierDesk$Rate" "prefix" "I", Cond.fieldLink RX2 18 "CarrierDesk$Rate" "day" "I", Cond.fieldLink RX2 9 "CarrierDesk$Rate" "id" "I", Cond.methodLink RX4 204 yX4_carrierOfRank, Cond.instanceMethod yX4_carrierOfRank, Cond.selects RX4 yX4_carrierOfRank yX4_carrierOfRank, Cond.code yX4_carrierOfRank cX4_carrierOfRank 6 (some .int), Cond.fieldLink RX4 33 "CarrierDesk" "carriers" "[LCarrierDesk$Carrier;", Cond.methodLink RX4 260 yX4_priceOf, Cond.instanceMethod yX4_priceOf, Cond.selects RX4 yX4_priceOf yX4_priceOf]
def wsL_route_r3 : List Cond := [Cond.code yX4_priceOf cX4_priceOf 4 (some .int), Cond.methodLink RX4 176 yX4_carrierAt, Cond.instanceMethod yX4_carrierAt, Cond.selects RX4 yX4_carrierAt yX4_carrierAt, Cond.code yX4_carrierAt cX4_carrierAt 2 (some (.object "CarrierDesk$Carrier")), Cond.methodLink RX4 193 yX1_priceFor, Cond.instanceMethod yX1_priceFor, Cond.selects RX1 yX1_priceFor yX1_priceFor, Cond.initialized RX1, Cond.code yX1_priceFor cX1_priceFor 5 (some .int), Cond.fieldLink RX1 9 "CarrierDesk$Carrier" "prefixes" "[I", Cond.fieldLink RX1 15 "CarrierDesk$Carrier" "prices" "[I", Cond.methodLink RX4 263 yX4_carriersBefore, Cond.instanceMethod yX4_carriersBefore, Cond.selects RX4 yX4_carriersBefore yX4_carriersBefore, Cond.code yX4_carriersBefore cX4_carriersBefore 7 (some .int)]
def wsL_route : List Cond := .codeWith yL_route cL_route 7 (some .int) [(0, 14, 17, 13), (0, 14, 21, 43)] :: ((wsL_route_r1 ++ (wsL_route_r2 ++ wsL_route_r3)) ++ wsX20 ++ wsX40 ++ wsX10 ++ (vx_atS RX4 47 "java/lang/IllegalArgumentException" ["java/lang/RuntimeException", "java/lang/Exception"]).filter goodWord ++ (vx_atS RX4 141 "java/util/NoSuchElementException" ["java/lang/RuntimeException", "java/lang/Exception"]).filter goodWord)
def wsL_claim : List Cond := .codeWith yL_claim cL_claim 5 (some .int) [(0, 10, 13, 30), (0, 10, 17, 13)] :: ([.classLink RL 30 "java/lang/IndexOutOfBoundsException", .classLink RL 13 "java/lang/IllegalArgumentException", .methodLink RL 65 yX4_claim, .instanceMethod yX4_claim, .selects RX4 yX4_claim yX4_claim, .initialized RX4, .code yX4_claim cX4_claim 5 (some .int), .classLink RX4 104 "java/lang/IndexOutOfBoundsException", .initialized "java/lang/IndexOutOfBoundsException", .classLink RX4 43 "java/lang/IllegalArgumentException", .initialized "java/lang/IllegalArgumentException", .constant RX4 210 (1000000), .fieldLink RX4 213 "CarrierDesk$Call" "claimed" "I", .methodLink RX4 100 yX4_callAt, .instanceMethod yX4_callAt, .selects RX4 yX4_callAt yX4_callAt, .code yX4_callAt cX4_callAt 2 (some (.object "CarrierDesk$Call")), .fieldLink RX4 17 "CarrierDesk" "calls" "[LCarrierDesk$Call;", .methodLink RX4 39 yX4_within, .static yX4_within, .code yX4_within cX4_within 3 (some .boolean)] ++ wsX00 ++ wsX40 ++ (vx_atS RX4 108 "java/lang/IndexOutOfBoundsException" ["java/lang/RuntimeException", "java/lang/Exception"]).filter goodWord ++ (vx_atS RX4 47 "java/lang/IllegalArgumentException" ["java/lang/RuntimeException", "java/lang/Exception"]).filter goodWord)
def wsL_difference_r1 : List Cond := [Cond.classLink RL 13 "java/lang/IllegalArgumentException", Cond.methodLink RL 68 yX4_difference, Cond.instanceMethod yX4_difference, Cond.selects RX4 yX4_difference yX4_difference, Cond.initialized RX4, Cond.code yX4_difference cX4_difference 2 (some .int), Cond.classLink RX4 43 "java/lang/IllegalArgumentException", Cond.initialized "java/lang/IllegalArgumentException", Cond.methodLink RX4 115 yX4_isPrefix, Cond.static yX4_isPrefix, Cond.code yX4_isPrefix cX4_isPrefix 1 (some .boolean), Cond.constant RX4 235 (99999), Cond.methodLink RX4 39 yX4_within, Cond.static yX4_within, Cond.code yX4_within cX4_within 3 (some .boolean), Cond.methodLink RX4 216 yX4_differenceUnder, Cond.instanceMethod yX4_differenceUnder, Cond.selects RX4 yX4_differenceUnder yX4_differenceUnder, Cond.code yX4_differenceUnder cX4_differenceUnder 7 (some .int), Cond.fieldLink RX4 17 "CarrierDesk" "calls" "[LCarrierDesk$Call;", Cond.fieldLink RX4 166 "CarrierDesk$Call" "number" "I", Cond.methodLink RX4 169 yX4_fits, Cond.static yX4_fits, Cond.code yX4_fits cX4_fits 4 (some .boolean)]
def wsL_difference_r2 : List Cond := [Cond.methodLink RX4 224 yX0_disputed, Cond.instanceMethod yX0_disputed, Cond.selects RX0 yX0_disputed yX0_disputed, Cond.initialized RX0, Cond.code yX0_disputed cX0_disputed 1 (some .int), Cond.fieldLink RX0 47 "CarrierDesk$Call" "claimed" "I", Cond.methodLink RX0 50 yX0_bookedOrZero, Cond.instanceMethod yX0_bookedOrZero, Cond.selects RX0 yX0_bookedOrZero yX0_bookedOrZero, Cond.code yX0_bookedOrZero cX0_bookedOrZero 1 (some .int), Cond.fieldLink RX0 9 "CarrierDesk$Call" "bookedAmount" "I", Cond.methodLink RX0 43 yX0_isBooked, Cond.instanceMethod yX0_isBooked, Cond.selects RX0 yX0_isBooked yX0_isBooked, Cond.code yX0_isBooked cX0_isBooked 1 (some .boolean)]
def wsL_difference : List Cond := .codeWith yL_difference cL_difference 4 (some .int) [(0, 9, 12, 13)] :: ((wsL_difference_r1 ++ wsL_difference_r2) ++ wsX40 ++ wsX00 ++ (vx_atS RX4 47 "java/lang/IllegalArgumentException" ["java/lang/RuntimeException", "java/lang/Exception"]).filter goodWord)
def wsL_narrow_r1 : List Cond := [Cond.classLink RL 13 "java/lang/IllegalArgumentException", Cond.methodLink RL 71 yX4_narrow, Cond.instanceMethod yX4_narrow, Cond.selects RX4 yX4_narrow yX4_narrow, Cond.initialized RX4, Cond.code yX4_narrow cX4_narrow 4 (some .int), Cond.classLink RX4 43 "java/lang/IllegalArgumentException", Cond.initialized "java/lang/IllegalArgumentException", Cond.methodLink RX4 39 yX4_within, Cond.static yX4_within, Cond.code yX4_within cX4_within 3 (some .boolean), Cond.methodLink RX4 221 yX4_withWorstDigit, Cond.instanceMethod yX4_withWorstDigit, Cond.selects RX4 yX4_withWorstDigit yX4_withWorstDigit, Cond.code yX4_withWorstDigit cX4_withWorstDigit 7 (some .int), Cond.methodLink RX4 227 Lib.Math.abs.name, Cond.static Lib.Math.abs.name, Cond.initialized "java/lang/Math", Cond.code Lib.Math.abs.name Lib.Math.abs.code 1 (some .int), Cond.methodLink RX4 216 yX4_differenceUnder, Cond.instanceMethod yX4_differenceUnder, Cond.selects RX4 yX4_differenceUnder yX4_differenceUnder, Cond.code yX4_differenceUnder cX4_differenceUnder 7 (some .int), Cond.fieldLink RX4 17 "CarrierDesk" "calls" "[LCarrierDesk$Call;"]
def wsL_narrow_r2 : List Cond := [Cond.fieldLink RX4 166 "CarrierDesk$Call" "number" "I", Cond.methodLink RX4 169 yX4_fits, Cond.static yX4_fits, Cond.code yX4_fits cX4_fits 4 (some .boolean), Cond.methodLink RX4 224 yX0_disputed, Cond.instanceMethod yX0_disputed, Cond.selects RX0 yX0_disputed yX0_disputed, Cond.initialized RX0, Cond.code yX0_disputed cX0_disputed 1 (some .int), Cond.fieldLink RX0 47 "CarrierDesk$Call" "claimed" "I", Cond.methodLink RX0 50 yX0_bookedOrZero, Cond.instanceMethod yX0_bookedOrZero, Cond.selects RX0 yX0_bookedOrZero yX0_bookedOrZero, Cond.code yX0_bookedOrZero cX0_bookedOrZero 1 (some .int), Cond.fieldLink RX0 9 "CarrierDesk$Call" "bookedAmount" "I", Cond.methodLink RX0 43 yX0_isBooked, Cond.instanceMethod yX0_isBooked, Cond.selects RX0 yX0_isBooked yX0_isBooked, Cond.code yX0_isBooked cX0_isBooked 1 (some .boolean)]
def wsL_narrow : List Cond := .codeWith yL_narrow cL_narrow 4 (some .int) [(0, 9, 12, 13)] :: ((wsL_narrow_r1 ++ wsL_narrow_r2) ++ wsX40 ++ wsX00 ++ (vx_atS RX4 47 "java/lang/IllegalArgumentException" ["java/lang/RuntimeException", "java/lang/Exception"]).filter goodWord)
def wsL_worst_r1 : List Cond := [Cond.classLink RL 43 "java/util/NoSuchElementException", Cond.methodLink RL 74 yX4_worst, Cond.instanceMethod yX4_worst, Cond.selects RX4 yX4_worst yX4_worst, Cond.initialized RX4, Cond.code yX4_worst cX4_worst 6 (some .int), Cond.classLink RX4 137 "java/util/NoSuchElementException", Cond.initialized "java/util/NoSuchElementException", Cond.fieldLink RX4 17 "CarrierDesk" "calls" "[LCarrierDesk$Call;", Cond.methodLink RX4 227 Lib.Math.abs.name, Cond.static Lib.Math.abs.name, Cond.initialized "java/lang/Math", Cond.code Lib.Math.abs.name Lib.Math.abs.code 1 (some .int), Cond.fieldLink RX4 88 "CarrierDesk$Call" "id" "I", Cond.methodLink RX4 224 yX0_disputed, Cond.instanceMethod yX0_disputed, Cond.selects RX0 yX0_disputed yX0_disputed, Cond.initialized RX0, Cond.code yX0_disputed cX0_disputed 1 (some .int), Cond.fieldLink RX0 47 "CarrierDesk$Call" "claimed" "I", Cond.methodLink RX0 50 yX0_bookedOrZero, Cond.instanceMethod yX0_bookedOrZero, Cond.selects RX0 yX0_bookedOrZero yX0_bookedOrZero, Cond.code yX0_bookedOrZero cX0_bookedOrZero 1 (some .int)]
def wsL_worst_r2 : List Cond := [Cond.fieldLink RX0 9 "CarrierDesk$Call" "bookedAmount" "I", Cond.methodLink RX0 43 yX0_isBooked, Cond.instanceMethod yX0_isBooked, Cond.selects RX0 yX0_isBooked yX0_isBooked, Cond.code yX0_isBooked cX0_isBooked 1 (some .boolean)]
def wsL_worst : List Cond := .codeWith yL_worst cL_worst 3 (some .int) [(0, 8, 11, 43)] :: ((wsL_worst_r1 ++ wsL_worst_r2) ++ wsX40 ++ wsX00 ++ (vx_atS RX4 141 "java/util/NoSuchElementException" ["java/lang/RuntimeException", "java/lang/Exception"]).filter goodWord)
def wsL_law0_r1 : List Cond := [Cond.classLink RL 8 RX4, Cond.instantiable RX4 8, Cond.initialized RX4, Cond.classLink RL 79 RX5, Cond.instantiable RX5 26, Cond.initialized RX5, Cond.arrayClass .long, Cond.methodLink RL 78 yX4_init, Cond.instanceMethod yX4_init, Cond.code yX4_init cX4_init 2 none, Cond.methodLink RX4 1 objectInit, Cond.instanceMethod objectInit, Cond.code objectInit ⟨#[0xb1]⟩ 1 none, Cond.classLink RX4 9 RX3, Cond.fieldLink RX4 11 "CarrierDesk" "sources" "[LCarrierDesk$Source;", Cond.classLink RX4 15 RX0, Cond.fieldLink RX4 17 "CarrierDesk" "calls" "[LCarrierDesk$Call;", Cond.fieldLink RX4 21 "CarrierDesk" "bound" "I", Cond.classLink RX4 25 RX2, Cond.fieldLink RX4 27 "CarrierDesk" "rates" "[LCarrierDesk$Rate;", Cond.classLink RX4 31 RX1, Cond.fieldLink RX4 33 "CarrierDesk" "carriers" "[LCarrierDesk$Carrier;", Cond.instantiable RX3 5, Cond.initialized RX3]
def wsL_law0_r2 : List Cond := [Cond.instantiable RX1 2, Cond.initialized RX1, Cond.instanceMethod yX3_init, Cond.code yX3_init cX3_init 1 none, Cond.methodLink RX3 3 objectInit, Cond.fieldLink RX3 11 "CarrierDesk$Source" "delivered" "[J", Cond.fieldLink RX3 15 "CarrierDesk$Source" "least" "I", Cond.instanceMethod yX1_init, Cond.code yX1_init cX1_init 1 none, Cond.methodLink RX1 3 objectInit, Cond.arrayClass .int, Cond.fieldLink RX1 9 "CarrierDesk$Carrier" "prefixes" "[I", Cond.fieldLink RX1 15 "CarrierDesk$Carrier" "prices" "[I", Cond.methodLink RL 81 yX5_init, Cond.instanceMethod yX5_init, Cond.code yX5_init cX5_init 2 none, Cond.methodLink RX5 1 objectInit, Cond.fieldLink RX5 7 "CarrierDeskModel" "bound" "I", Cond.fieldLink RX5 13 "CarrierDeskModel" "delivered" "[J", Cond.fieldLink RX5 17 "CarrierDeskModel" "many" "[I", Cond.fieldLink RX5 21 "CarrierDeskModel" "least" "[I", Cond.fieldLink RX5 24 "CarrierDeskModel" "most" "[I", Cond.fieldLink RX5 27 "CarrierDeskModel" "doubles" "[I", Cond.fieldLink RX5 30 "CarrierDeskModel" "number" "[I"]
def wsL_law0_r3 : List Cond := [Cond.fieldLink RX5 33 "CarrierDeskModel" "begin" "[I", Cond.fieldLink RX5 36 "CarrierDeskModel" "first" "[I", Cond.fieldLink RX5 39 "CarrierDeskModel" "length" "[I", Cond.fieldLink RX5 42 "CarrierDeskModel" "legs" "[I", Cond.fieldLink RX5 45 "CarrierDeskModel" "booked" "[I", Cond.fieldLink RX5 48 "CarrierDeskModel" "claim" "[I", Cond.fieldLink RX5 51 "CarrierDeskModel" "prefix" "[I", Cond.fieldLink RX5 54 "CarrierDeskModel" "day" "[I", Cond.fieldLink RX5 57 "CarrierDeskModel" "price" "[I", Cond.fieldLink RX5 60 "CarrierDeskModel" "step" "[I", Cond.fieldLink RX5 63 "CarrierDeskModel" "shortest" "[I", Cond.fieldLink RX5 66 "CarrierDeskModel" "fee" "[I", Cond.fieldLink RX5 69 "CarrierDeskModel" "offers" "[I", Cond.fieldLink RX5 72 "CarrierDeskModel" "offered" "[I", Cond.fieldLink RX5 75 "CarrierDeskModel" "asked" "[I", Cond.methodLink RL 82 yL_setBound, Cond.static yL_setBound, Cond.initialized RL, Cond.codeWith yL_setBound cL_setBound 4 (some .int) [(0, 9, 12, 13)], Cond.classLink RL 13 "java/lang/IllegalArgumentException", Cond.methodLink RL 7 yX4_setBound, Cond.instanceMethod yX4_setBound, Cond.selects RX4 yX4_setBound yX4_setBound, Cond.code yX4_setBound cX4_setBound 3 (some .int)]
def wsL_law0_r4 : List Cond := [Cond.classLink RX4 43 "java/lang/IllegalArgumentException", Cond.initialized "java/lang/IllegalArgumentException", Cond.methodLink RX4 39 yX4_within, Cond.static yX4_within, Cond.code yX4_within cX4_within 3 (some .boolean), Cond.methodLink RL 87 yX5_setBound, Cond.instanceMethod yX5_setBound, Cond.selects RX5 yX5_setBound yX5_setBound, Cond.code yX5_setBound cX5_setBound 3 (some .int), Cond.methodLink RX5 82 yX5_in, Cond.static yX5_in, Cond.code yX5_in cX5_in 3 (some .boolean), Cond.methodLink RX5 87 yX5_asks, Cond.instanceMethod yX5_asks, Cond.selects RX5 yX5_asks yX5_asks, Cond.code yX5_asks cX5_asks 2 (some .boolean), Cond.fieldLink RX5 78 "CarrierDeskModel" "thrown" "I", Cond.methodLink RL 88 yX5_thrown, Cond.instanceMethod yX5_thrown, Cond.selects RX5 yX5_thrown yX5_thrown, Cond.code yX5_thrown cX5_thrown 1 (some .int), Cond.methodLink RL 91 yL_record, Cond.static yL_record, Cond.codeWith yL_record cL_record 8 (some .int) [(0, 16, 19, 13), (0, 16, 23, 19)]]
def wsL_law0_r5 : List Cond := [Cond.classLink RL 19 "java/lang/IllegalStateException", Cond.methodLink RL 15 yX4_record, Cond.instanceMethod yX4_record, Cond.selects RX4 yX4_record yX4_record, Cond.code yX4_record cX4_record 8 (some .int), Cond.classLink RX4 75 "java/lang/IllegalStateException", Cond.initialized "java/lang/IllegalStateException", Cond.constant RX4 58 (999999), Cond.fieldLink RX4 64 "CarrierDesk$Source" "doubleCount" "I", Cond.fieldLink RX4 88 "CarrierDesk$Call" "id" "I", Cond.methodLink RX4 50 yX4_sourceAt, Cond.instanceMethod yX4_sourceAt, Cond.selects RX4 yX4_sourceAt yX4_sourceAt, Cond.code yX4_sourceAt cX4_sourceAt 2 (some (.object "CarrierDesk$Source")), Cond.methodLink RX4 54 yX4_isNumber, Cond.static yX4_isNumber, Cond.code yX4_isNumber cX4_isNumber 1 (some .boolean), Cond.constant RX4 234 (99999999), Cond.methodLink RX4 61 yX3_has, Cond.instanceMethod yX3_has, Cond.selects RX3 yX3_has yX3_has, Cond.code yX3_has cX3_has 3 (some .boolean), Cond.methodLink RX3 19 yX3_bitOf, Cond.static yX3_bitOf]
def wsL_law0_r6 : List Cond := [Cond.code yX3_bitOf cX3_bitOf 1 (some .long), Cond.methodLink RX4 67 yX4_callJoinedBy, Cond.instanceMethod yX4_callJoinedBy, Cond.selects RX4 yX4_callJoinedBy yX4_callJoinedBy, Cond.code yX4_callJoinedBy cX4_callJoinedBy 9 (some (.object "CarrierDesk$Call")), Cond.fieldLink RX4 166 "CarrierDesk$Call" "number" "I", Cond.methodLink RX4 236 yX0_hasLegFrom, Cond.instanceMethod yX0_hasLegFrom, Cond.selects RX0 yX0_hasLegFrom yX0_hasLegFrom, Cond.initialized RX0, Cond.code yX0_hasLegFrom cX0_hasLegFrom 2 (some .boolean), Cond.fieldLink RX0 27 "CarrierDesk$Call" "sourceBits" "I", Cond.methodLink RX4 239 yX0_beganWithin, Cond.instanceMethod yX0_beganWithin, Cond.selects RX0 yX0_beganWithin yX0_beganWithin, Cond.code yX0_beganWithin cX0_beganWithin 4 (some .boolean), Cond.fieldLink RX0 21 "CarrierDesk$Call" "firstBegin" "I", Cond.methodLink RX0 30 Lib.Math.abs.name, Cond.static Lib.Math.abs.name, Cond.initialized "java/lang/Math", Cond.code Lib.Math.abs.name Lib.Math.abs.code 1 (some .int), Cond.fieldLink RX0 24 "CarrierDesk$Call" "firstSeconds" "I", Cond.methodLink RX4 71 yX4_newCall, Cond.instanceMethod yX4_newCall]
def wsL_law0_r7 : List Cond := [Cond.selects RX4 yX4_newCall yX4_newCall, Cond.code yX4_newCall cX4_newCall 6 (some (.object "CarrierDesk$Call")), Cond.fieldLink RX4 97 "CarrierDesk" "callCount" "I", Cond.instantiable RX0 8, Cond.methodLink RX4 242 yX0_init, Cond.instanceMethod yX0_init, Cond.code yX0_init cX0_init 5 none, Cond.methodLink RX0 3 objectInit, Cond.fieldLink RX0 9 "CarrierDesk$Call" "bookedAmount" "I", Cond.fieldLink RX0 15 "CarrierDesk$Call" "id" "I", Cond.fieldLink RX0 18 "CarrierDesk$Call" "number" "I", Cond.methodLink RX4 80 yX3_add, Cond.instanceMethod yX3_add, Cond.selects RX3 yX3_add yX3_add, Cond.code yX3_add cX3_add 3 none, Cond.fieldLink RX3 23 "CarrierDesk$Source" "deliveredCount" "I", Cond.methodLink RX3 26 Lib.Math.min.name, Cond.static Lib.Math.min.name, Cond.code Lib.Math.min.name Lib.Math.min.code 2 (some .int), Cond.fieldLink RX3 32 "CarrierDesk$Source" "greatest" "I", Cond.methodLink RX3 35 Lib.Math.max.name, Cond.static Lib.Math.max.name, Cond.code Lib.Math.max.name Lib.Math.max.code 2 (some .int), Cond.methodLink RX4 84 yX0_addLeg]
def wsL_law0_r8 : List Cond := [Cond.instanceMethod yX0_addLeg, Cond.selects RX0 yX0_addLeg yX0_addLeg, Cond.code yX0_addLeg cX0_addLeg 3 none, Cond.fieldLink RX0 36 "CarrierDesk$Call" "seconds" "I", Cond.methodLink RX0 39 Lib.Math.max.name, Cond.methodLink RL 94 yX5_record, Cond.instanceMethod yX5_record, Cond.selects RX5 yX5_record yX5_record, Cond.code yX5_record cX5_record 8 (some .int), Cond.constant RX5 102 (999999), Cond.fieldLink RX5 91 "CarrierDeskModel" "calls" "I", Cond.methodLink RX5 98 yX5_isNumber, Cond.static yX5_isNumber, Cond.code yX5_isNumber cX5_isNumber 1 (some .boolean), Cond.constant RX5 81 (99999999), Cond.methodLink RX5 103 yX5_joined, Cond.instanceMethod yX5_joined, Cond.selects RX5 yX5_joined yX5_joined, Cond.code yX5_joined cX5_joined 6 (some .int), Cond.methodLink RX5 94 yX5_apart, Cond.static yX5_apart, Cond.code yX5_apart cX5_apart 2 (some .int), Cond.methodLink RX5 107 yX5_fails, Cond.instanceMethod yX5_fails]
def wsL_law0_r9 : List Cond := [Cond.selects RX5 yX5_fails yX5_fails, Cond.code yX5_fails cX5_fails 2 (some .int), Cond.methodLink RL 95 yL_gaps, Cond.static yL_gaps, Cond.codeWith yL_gaps cL_gaps 4 (some .int) [(0, 9, 12, 13)], Cond.methodLink RL 21 yX4_gaps, Cond.instanceMethod yX4_gaps, Cond.selects RX4 yX4_gaps yX4_gaps, Cond.code yX4_gaps cX4_gaps 3 (some .int), Cond.methodLink RX4 93 yX3_missing, Cond.instanceMethod yX3_missing, Cond.selects RX3 yX3_missing yX3_missing, Cond.code yX3_missing cX3_missing 1 (some .int), Cond.methodLink RL 97 yX5_gaps, Cond.instanceMethod yX5_gaps, Cond.selects RX5 yX5_gaps yX5_gaps, Cond.code yX5_gaps cX5_gaps 2 (some .int), Cond.methodLink RL 98 yL_doubles, Cond.static yL_doubles, Cond.codeWith yL_doubles cL_doubles 4 (some .int) [(0, 9, 12, 13)], Cond.methodLink RL 24 yX4_doubles, Cond.instanceMethod yX4_doubles, Cond.selects RX4 yX4_doubles yX4_doubles, Cond.code yX4_doubles cX4_doubles 3 (some .int)]
def wsL_law0_r10 : List Cond := [Cond.methodLink RL 100 yX5_doubles, Cond.instanceMethod yX5_doubles, Cond.selects RX5 yX5_doubles yX5_doubles, Cond.code yX5_doubles cX5_doubles 2 (some .int), Cond.methodLink RL 101 yX4_calls, Cond.instanceMethod yX4_calls, Cond.selects RX4 yX4_calls yX4_calls, Cond.code yX4_calls cX4_calls 1 (some .int), Cond.methodLink RL 104 yX5_calls, Cond.instanceMethod yX5_calls, Cond.selects RX5 yX5_calls yX5_calls, Cond.code yX5_calls cX5_calls 1 (some .int), Cond.methodLink RL 105 yL_legs, Cond.static yL_legs, Cond.codeWith yL_legs cL_legs 4 (some .int) [(0, 9, 12, 30)], Cond.classLink RL 30 "java/lang/IndexOutOfBoundsException", Cond.methodLink RL 27 yX4_legs, Cond.instanceMethod yX4_legs, Cond.selects RX4 yX4_legs yX4_legs, Cond.code yX4_legs cX4_legs 3 (some .int), Cond.classLink RX4 104 "java/lang/IndexOutOfBoundsException", Cond.initialized "java/lang/IndexOutOfBoundsException", Cond.fieldLink RX4 109 "CarrierDesk$Call" "sourceBits" "I", Cond.methodLink RX4 100 yX4_callAt]
def wsL_law0_r11 : List Cond := [Cond.instanceMethod yX4_callAt, Cond.selects RX4 yX4_callAt yX4_callAt, Cond.code yX4_callAt cX4_callAt 2 (some (.object "CarrierDesk$Call")), Cond.methodLink RL 107 yX5_legs, Cond.instanceMethod yX5_legs, Cond.selects RX5 yX5_legs yX5_legs, Cond.code yX5_legs cX5_legs 2 (some .int), Cond.methodLink RX5 111 yX5_isCall, Cond.instanceMethod yX5_isCall, Cond.selects RX5 yX5_isCall yX5_isCall, Cond.code yX5_isCall cX5_isCall 2 (some .boolean), Cond.methodLink RL 108 yL_length, Cond.static yL_length, Cond.codeWith yL_length cL_length 4 (some .int) [(0, 9, 12, 30)], Cond.methodLink RL 32 yX4_length, Cond.instanceMethod yX4_length, Cond.selects RX4 yX4_length yX4_length, Cond.code yX4_length cX4_length 3 (some .int), Cond.fieldLink RX4 112 "CarrierDesk$Call" "seconds" "I", Cond.methodLink RL 110 yX5_length, Cond.instanceMethod yX5_length, Cond.selects RX5 yX5_length yX5_length, Cond.code yX5_length cX5_length 2 (some .int), Cond.methodLink RL 111 yL_addRate]
def wsL_law0_r12 : List Cond := [Cond.static yL_addRate, Cond.codeWith yL_addRate cL_addRate 9 (some .int) [(0, 18, 21, 13), (0, 18, 25, 19)], Cond.methodLink RL 35 yX4_addRate, Cond.instanceMethod yX4_addRate, Cond.selects RX4 yX4_addRate yX4_addRate, Cond.code yX4_addRate cX4_addRate 8 (some .int), Cond.fieldLink RX4 123 "CarrierDesk" "rateCount" "I", Cond.instantiable RX2 7, Cond.initialized RX2, Cond.methodLink RX4 115 yX4_isPrefix, Cond.static yX4_isPrefix, Cond.code yX4_isPrefix cX4_isPrefix 1 (some .boolean), Cond.constant RX4 235 (99999), Cond.methodLink RX4 118 yX4_isDay, Cond.static yX4_isDay, Cond.code yX4_isDay cX4_isDay 1 (some .boolean), Cond.methodLink RX4 128 yX2_init, Cond.instanceMethod yX2_init, Cond.code yX2_init cX2_init 8 none, Cond.methodLink RX2 3 objectInit, Cond.fieldLink RX2 9 "CarrierDesk$Rate" "id" "I", Cond.fieldLink RX2 15 "CarrierDesk$Rate" "prefix" "I", Cond.fieldLink RX2 18 "CarrierDesk$Rate" "day" "I", Cond.fieldLink RX2 21 "CarrierDesk$Rate" "price" "I"]
def wsL_law0_r13 : List Cond := [Cond.fieldLink RX2 24 "CarrierDesk$Rate" "step" "I", Cond.fieldLink RX2 27 "CarrierDesk$Rate" "least" "I", Cond.fieldLink RX2 30 "CarrierDesk$Rate" "fee" "I", Cond.methodLink RL 114 yX5_addRate, Cond.instanceMethod yX5_addRate, Cond.selects RX5 yX5_addRate yX5_addRate, Cond.code yX5_addRate cX5_addRate 7 (some .int), Cond.fieldLink RX5 117 "CarrierDeskModel" "rates" "I", Cond.methodLink RX5 114 yX5_isPrefix, Cond.static yX5_isPrefix, Cond.code yX5_isPrefix cX5_isPrefix 1 (some .boolean), Cond.constant RX5 86 (99999), Cond.methodLink RL 115 yL_rateFor, Cond.static yL_rateFor, Cond.codeWith yL_rateFor cL_rateFor 5 (some .int) [(0, 10, 13, 13), (0, 10, 17, 43)], Cond.classLink RL 43 "java/util/NoSuchElementException", Cond.methodLink RL 39 yX4_rateFor, Cond.instanceMethod yX4_rateFor, Cond.selects RX4 yX4_rateFor yX4_rateFor, Cond.code yX4_rateFor cX4_rateFor 4 (some .int), Cond.classLink RX4 137 "java/util/NoSuchElementException", Cond.initialized "java/util/NoSuchElementException", Cond.fieldLink RX4 142 "CarrierDesk$Rate" "id" "I", Cond.methodLink RX4 133 yX4_rateInForce]
def wsL_law0_r14 : List Cond := [Cond.instanceMethod yX4_rateInForce, Cond.selects RX4 yX4_rateInForce yX4_rateInForce, Cond.code yX4_rateInForce cX4_rateInForce 8 (some (.object "CarrierDesk$Rate")), Cond.fieldLink RX4 245 "CarrierDesk$Rate" "day" "I", Cond.fieldLink RX4 248 "CarrierDesk$Rate" "prefix" "I", Cond.methodLink RX4 169 yX4_fits, Cond.static yX4_fits, Cond.code yX4_fits cX4_fits 4 (some .boolean), Cond.methodLink RX4 251 yX2_goesBefore, Cond.instanceMethod yX2_goesBefore, Cond.selects RX2 yX2_goesBefore yX2_goesBefore, Cond.code yX2_goesBefore cX2_goesBefore 2 (some .boolean), Cond.methodLink RL 118 yX5_rateFor, Cond.instanceMethod yX5_rateFor, Cond.selects RX5 yX5_rateFor yX5_rateFor, Cond.code yX5_rateFor cX5_rateFor 4 (some .int), Cond.methodLink RX5 124 yX5_rate, Cond.instanceMethod yX5_rate, Cond.selects RX5 yX5_rate yX5_rate, Cond.code yX5_rate cX5_rate 6 (some .int), Cond.methodLink RX5 120 yX5_fits, Cond.static yX5_fits, Cond.code yX5_fits cX5_fits 3 (some .boolean), Cond.methodLink RL 119 yL_charge]
def wsL_law0_r15 : List Cond := [Cond.static yL_charge, Cond.codeWith yL_charge cL_charge 4 (some .int) [(0, 9, 12, 30), (0, 9, 15, 43)], Cond.methodLink RL 45 yX4_charge, Cond.instanceMethod yX4_charge, Cond.selects RX4 yX4_charge yX4_charge, Cond.code yX4_charge cX4_charge 4 (some .int), Cond.methodLink RX4 143 yX4_chargeNow, Cond.instanceMethod yX4_chargeNow, Cond.selects RX4 yX4_chargeNow yX4_chargeNow, Cond.code yX4_chargeNow cX4_chargeNow 3 (some .int), Cond.methodLink RX4 255 yX0_day, Cond.instanceMethod yX0_day, Cond.selects RX0 yX0_day yX0_day, Cond.code yX0_day cX0_day 1 (some .int), Cond.methodLink RX4 257 yX2_chargeFor, Cond.instanceMethod yX2_chargeFor, Cond.selects RX2 yX2_chargeFor yX2_chargeFor, Cond.code yX2_chargeFor cX2_chargeFor 3 (some .int), Cond.methodLink RX2 37 Lib.Math.max.name, Cond.methodLink RX2 33 yX2_quotientUp, Cond.static yX2_quotientUp, Cond.code yX2_quotientUp cX2_quotientUp 2 (some .int), Cond.methodLink RL 121 yX5_charge, Cond.instanceMethod yX5_charge]
def wsL_law0_r16 : List Cond := [Cond.selects RX5 yX5_charge yX5_charge, Cond.code yX5_charge cX5_charge 3 (some .int), Cond.methodLink RX5 127 yX5_chargeOf, Cond.instanceMethod yX5_chargeOf, Cond.selects RX5 yX5_chargeOf yX5_chargeOf, Cond.code yX5_chargeOf cX5_chargeOf 5 (some .int), Cond.methodLink RL 122 yX4_book, Cond.instanceMethod yX4_book, Cond.selects RX4 yX4_book yX4_book, Cond.code yX4_book cX4_book 6 (some .int), Cond.fieldLink RX4 153 "CarrierDesk$Call" "bookedAmount" "I", Cond.methodLink RX4 149 yX0_isBooked, Cond.instanceMethod yX0_isBooked, Cond.selects RX0 yX0_isBooked yX0_isBooked, Cond.code yX0_isBooked cX0_isBooked 1 (some .boolean), Cond.methodLink RL 125 yX5_book, Cond.instanceMethod yX5_book, Cond.selects RX5 yX5_book yX5_book, Cond.code yX5_book cX5_book 3 (some .int), Cond.methodLink RL 126 yL_booked, Cond.static yL_booked, Cond.codeWith yL_booked cL_booked 4 (some .int) [(0, 9, 12, 30), (0, 9, 15, 43)], Cond.methodLink RL 48 yX4_booked, Cond.instanceMethod yX4_booked]
def wsL_law0_r17 : List Cond := [Cond.selects RX4 yX4_booked yX4_booked, Cond.code yX4_booked cX4_booked 3 (some .int), Cond.methodLink RL 128 yX5_booked, Cond.instanceMethod yX5_booked, Cond.selects RX5 yX5_booked yX5_booked, Cond.code yX5_booked cX5_booked 2 (some .int), Cond.methodLink RL 129 yX4_correct, Cond.instanceMethod yX4_correct, Cond.selects RX4 yX4_correct yX4_correct, Cond.code yX4_correct cX4_correct 6 (some .int), Cond.methodLink RX4 158 yX4_changeByCorrecting, Cond.instanceMethod yX4_changeByCorrecting, Cond.selects RX4 yX4_changeByCorrecting yX4_changeByCorrecting, Cond.code yX4_changeByCorrecting cX4_changeByCorrecting 4 (some .int), Cond.fieldLink RX4 161 "CarrierDesk" "changedBookings" "I", Cond.methodLink RL 132 yX5_correct, Cond.instanceMethod yX5_correct, Cond.selects RX5 yX5_correct yX5_correct, Cond.code yX5_correct cX5_correct 4 (some .int), Cond.fieldLink RX5 130 "CarrierDeskModel" "corrections" "I", Cond.methodLink RL 133 yX4_corrections, Cond.instanceMethod yX4_corrections, Cond.selects RX4 yX4_corrections yX4_corrections, Cond.code yX4_corrections cX4_corrections 1 (some .int)]
def wsL_law0_r18 : List Cond := [Cond.methodLink RL 136 yX5_corrections, Cond.instanceMethod yX5_corrections, Cond.selects RX5 yX5_corrections yX5_corrections, Cond.code yX5_corrections cX5_corrections 1 (some .int), Cond.methodLink RL 137 yL_total, Cond.static yL_total, Cond.codeWith yL_total cL_total 4 (some .int) [(0, 9, 12, 13)], Cond.methodLink RL 51 yX4_total, Cond.instanceMethod yX4_total, Cond.selects RX4 yX4_total yX4_total, Cond.code yX4_total cX4_total 7 (some .int), Cond.methodLink RX4 173 yX0_bookedOrZero, Cond.instanceMethod yX0_bookedOrZero, Cond.selects RX0 yX0_bookedOrZero yX0_bookedOrZero, Cond.code yX0_bookedOrZero cX0_bookedOrZero 1 (some .int), Cond.methodLink RX0 43 yX0_isBooked, Cond.methodLink RL 139 yX5_total, Cond.instanceMethod yX5_total, Cond.selects RX5 yX5_total yX5_total, Cond.code yX5_total cX5_total 4 (some .int), Cond.methodLink RX5 133 yX5_bookedOf, Cond.instanceMethod yX5_bookedOf, Cond.selects RX5 yX5_bookedOf yX5_bookedOf, Cond.code yX5_bookedOf cX5_bookedOf 2 (some .int)]
def wsL_law0_r19 : List Cond := [Cond.methodLink RL 140 yL_offer, Cond.static yL_offer, Cond.codeWith yL_offer cL_offer 6 (some .int) [(0, 12, 15, 13), (0, 12, 19, 19)], Cond.methodLink RL 54 yX4_offer, Cond.instanceMethod yX4_offer, Cond.selects RX4 yX4_offer yX4_offer, Cond.code yX4_offer cX4_offer 5 (some .int), Cond.methodLink RX4 176 yX4_carrierAt, Cond.instanceMethod yX4_carrierAt, Cond.selects RX4 yX4_carrierAt yX4_carrierAt, Cond.code yX4_carrierAt cX4_carrierAt 2 (some (.object "CarrierDesk$Carrier")), Cond.methodLink RX4 182 yX1_hasPlaceFor, Cond.instanceMethod yX1_hasPlaceFor, Cond.selects RX1 yX1_hasPlaceFor yX1_hasPlaceFor, Cond.code yX1_hasPlaceFor cX1_hasPlaceFor 2 (some .boolean), Cond.methodLink RX1 18 yX1_placeOf, Cond.instanceMethod yX1_placeOf, Cond.selects RX1 yX1_placeOf yX1_placeOf, Cond.code yX1_placeOf cX1_placeOf 3 (some .int), Cond.methodLink RX4 187 yX1_replacePrice, Cond.instanceMethod yX1_replacePrice, Cond.selects RX1 yX1_replacePrice yX1_replacePrice, Cond.code yX1_replacePrice cX1_replacePrice 5 (some .int), Cond.methodLink RL 143 yX5_offer]
def wsL_law0_r20 : List Cond := [Cond.instanceMethod yX5_offer, Cond.selects RX5 yX5_offer yX5_offer, Cond.code yX5_offer cX5_offer 7 (some .int), Cond.methodLink RL 144 yL_offerFor, Cond.static yL_offerFor, Cond.codeWith yL_offerFor cL_offerFor 5 (some .int) [(0, 10, 13, 13), (0, 10, 17, 43)], Cond.methodLink RL 58 yX4_offerFor, Cond.instanceMethod yX4_offerFor, Cond.selects RX4 yX4_offerFor yX4_offerFor, Cond.code yX4_offerFor cX4_offerFor 5 (some .int), Cond.methodLink RX4 193 yX1_priceFor, Cond.instanceMethod yX1_priceFor, Cond.selects RX1 yX1_priceFor yX1_priceFor, Cond.code yX1_priceFor cX1_priceFor 5 (some .int), Cond.methodLink RL 146 yX5_offerFor, Cond.instanceMethod yX5_offerFor, Cond.selects RX5 yX5_offerFor yX5_offerFor, Cond.code yX5_offerFor cX5_offerFor 4 (some .int), Cond.methodLink RX5 136 yX5_offerOf, Cond.instanceMethod yX5_offerOf, Cond.selects RX5 yX5_offerOf yX5_offerOf, Cond.code yX5_offerOf cX5_offerOf 5 (some .int), Cond.methodLink RL 147 yL_route, Cond.static yL_route]
def wsL_law0_r21 : List Cond := [Cond.codeWith yL_route cL_route 7 (some .int) [(0, 14, 17, 13), (0, 14, 21, 43)], Cond.methodLink RL 61 yX4_route, Cond.instanceMethod yX4_route, Cond.selects RX4 yX4_route yX4_route, Cond.code yX4_route cX4_route 7 (some .int), Cond.fieldLink RX4 201 "CarrierDesk$Rate" "price" "I", Cond.methodLink RX4 204 yX4_carrierOfRank, Cond.instanceMethod yX4_carrierOfRank, Cond.selects RX4 yX4_carrierOfRank yX4_carrierOfRank, Cond.code yX4_carrierOfRank cX4_carrierOfRank 6 (some .int), Cond.methodLink RX4 260 yX4_priceOf, Cond.instanceMethod yX4_priceOf, Cond.selects RX4 yX4_priceOf yX4_priceOf, Cond.code yX4_priceOf cX4_priceOf 4 (some .int), Cond.methodLink RX4 263 yX4_carriersBefore, Cond.instanceMethod yX4_carriersBefore, Cond.selects RX4 yX4_carriersBefore yX4_carriersBefore, Cond.code yX4_carriersBefore cX4_carriersBefore 7 (some .int), Cond.methodLink RL 150 yX5_route, Cond.instanceMethod yX5_route, Cond.selects RX5 yX5_route yX5_route, Cond.code yX5_route cX5_route 12 (some .int), Cond.methodLink RL 151 yL_claim, Cond.static yL_claim]
def wsL_law0_r22 : List Cond := [Cond.codeWith yL_claim cL_claim 5 (some .int) [(0, 10, 13, 30), (0, 10, 17, 13)], Cond.methodLink RL 65 yX4_claim, Cond.instanceMethod yX4_claim, Cond.selects RX4 yX4_claim yX4_claim, Cond.code yX4_claim cX4_claim 5 (some .int), Cond.constant RX4 210 (1000000), Cond.fieldLink RX4 213 "CarrierDesk$Call" "claimed" "I", Cond.methodLink RL 153 yX5_claim, Cond.instanceMethod yX5_claim, Cond.selects RX5 yX5_claim yX5_claim, Cond.code yX5_claim cX5_claim 4 (some .int), Cond.constant RX5 139 (1000000), Cond.methodLink RL 154 yL_difference, Cond.static yL_difference, Cond.codeWith yL_difference cL_difference 4 (some .int) [(0, 9, 12, 13)], Cond.methodLink RL 68 yX4_difference, Cond.instanceMethod yX4_difference, Cond.selects RX4 yX4_difference yX4_difference, Cond.code yX4_difference cX4_difference 2 (some .int), Cond.methodLink RX4 216 yX4_differenceUnder, Cond.instanceMethod yX4_differenceUnder, Cond.selects RX4 yX4_differenceUnder yX4_differenceUnder, Cond.code yX4_differenceUnder cX4_differenceUnder 7 (some .int), Cond.methodLink RX4 224 yX0_disputed]
def wsL_law0_r23 : List Cond := [Cond.instanceMethod yX0_disputed, Cond.selects RX0 yX0_disputed yX0_disputed, Cond.code yX0_disputed cX0_disputed 1 (some .int), Cond.fieldLink RX0 47 "CarrierDesk$Call" "claimed" "I", Cond.methodLink RX0 50 yX0_bookedOrZero, Cond.methodLink RL 156 yX5_difference, Cond.instanceMethod yX5_difference, Cond.selects RX5 yX5_difference yX5_difference, Cond.code yX5_difference cX5_difference 2 (some .int), Cond.methodLink RX5 140 yX5_differs, Cond.instanceMethod yX5_differs, Cond.selects RX5 yX5_differs yX5_differs, Cond.code yX5_differs cX5_differs 4 (some .int), Cond.methodLink RL 157 yL_narrow, Cond.static yL_narrow, Cond.codeWith yL_narrow cL_narrow 4 (some .int) [(0, 9, 12, 13)], Cond.methodLink RL 71 yX4_narrow, Cond.instanceMethod yX4_narrow, Cond.selects RX4 yX4_narrow yX4_narrow, Cond.code yX4_narrow cX4_narrow 4 (some .int), Cond.methodLink RX4 221 yX4_withWorstDigit, Cond.instanceMethod yX4_withWorstDigit, Cond.selects RX4 yX4_withWorstDigit yX4_withWorstDigit, Cond.code yX4_withWorstDigit cX4_withWorstDigit 7 (some .int)]
def wsL_law0_r24 : List Cond := [Cond.methodLink RX4 227 Lib.Math.abs.name, Cond.methodLink RL 159 yX5_narrow, Cond.instanceMethod yX5_narrow, Cond.selects RX5 yX5_narrow yX5_narrow, Cond.code yX5_narrow cX5_narrow 7 (some .int), Cond.methodLink RL 160 yL_worst, Cond.static yL_worst, Cond.codeWith yL_worst cL_worst 3 (some .int) [(0, 8, 11, 43)], Cond.methodLink RL 74 yX4_worst, Cond.instanceMethod yX4_worst, Cond.selects RX4 yX4_worst yX4_worst, Cond.code yX4_worst cX4_worst 6 (some .int), Cond.methodLink RL 163 yX5_worst, Cond.instanceMethod yX5_worst, Cond.selects RX5 yX5_worst yX5_worst, Cond.code yX5_worst cX5_worst 3 (some .int)]
def wsL_law0 : List Cond := (wsL_law0_r1 ++ (wsL_law0_r2 ++ (wsL_law0_r3 ++ (wsL_law0_r4 ++ (wsL_law0_r5 ++ (wsL_law0_r6 ++ (wsL_law0_r7 ++ (wsL_law0_r8 ++ (wsL_law0_r9 ++ (wsL_law0_r10 ++ (wsL_law0_r11 ++ (wsL_law0_r12 ++ (wsL_law0_r13 ++ (wsL_law0_r14 ++ (wsL_law0_r15 ++ (wsL_law0_r16 ++ (wsL_law0_r17 ++ (wsL_law0_r18 ++ (wsL_law0_r19 ++ (wsL_law0_r20 ++ (wsL_law0_r21 ++ (wsL_law0_r22 ++ (wsL_law0_r23 ++ wsL_law0_r24))))))))))))))))))))))) ++ wsX40 ++ wsX50 ++ wsX30 ++ wsX10 ++ wsX00 ++ wsX20 ++ ([] : List Cond)
def wsL_law : List Cond := wsL_law0 ++ (vx_atS RX4 47 "java/lang/IllegalArgumentException" ["java/lang/RuntimeException", "java/lang/Exception"]).filter goodWord ++ (vx_atS RX4 79 "java/lang/IllegalStateException" ["java/lang/RuntimeException", "java/lang/Exception"]).filter goodWord ++ (vx_atS RX4 108 "java/lang/IndexOutOfBoundsException" ["java/lang/RuntimeException", "java/lang/Exception"]).filter goodWord ++ (vx_atS RX4 141 "java/util/NoSuchElementException" ["java/lang/RuntimeException", "java/lang/Exception"]).filter goodWord
end
section
theorem dX0_init_0 : decode cX0_init 0 = .ok (.aload_n 0, 1) := by decide +kernel
theorem dX0_init_1 : decode cX0_init 1 = .ok (.invokespecial 3, 3) := by decide +kernel
theorem dX0_init_4 : decode cX0_init 4 = .ok (.aload_n 0, 1) := by decide +kernel
theorem dX0_init_5 : decode cX0_init 5 = .ok (.iconst (-1), 1) := by decide +kernel
theorem dX0_init_6 : decode cX0_init 6 = .ok (.putfield 9, 3) := by decide +kernel
theorem dX0_init_9 : decode cX0_init 9 = .ok (.aload_n 0, 1) := by decide +kernel
theorem dX0_init_10 : decode cX0_init 10 = .ok (.iload_n 1, 1) := by decide +kernel
theorem dX0_init_11 : decode cX0_init 11 = .ok (.putfield 15, 3) := by decide +kernel
theorem dX0_init_14 : decode cX0_init 14 = .ok (.aload_n 0, 1) := by decide +kernel
theorem dX0_init_15 : decode cX0_init 15 = .ok (.iload_n 2, 1) := by decide +kernel
theorem dX0_init_16 : decode cX0_init 16 = .ok (.putfield 18, 3) := by decide +kernel
theorem dX0_init_19 : decode cX0_init 19 = .ok (.aload_n 0, 1) := by decide +kernel
theorem dX0_init_20 : decode cX0_init 20 = .ok (.iload_n 3, 1) := by decide +kernel
theorem dX0_init_21 : decode cX0_init 21 = .ok (.putfield 21, 3) := by decide +kernel
theorem dX0_init_24 : decode cX0_init 24 = .ok (.aload_n 0, 1) := by decide +kernel
theorem dX0_init_25 : decode cX0_init 25 = .ok (.iload 4, 2) := by decide +kernel
theorem dX0_init_27 : decode cX0_init 27 = .ok (.putfield 24, 3) := by decide +kernel
theorem dX0_init_30 : decode cX0_init 30 = .ok (.return_, 1) := by decide +kernel
theorem dX0_hasLegFrom_0 : decode cX0_hasLegFrom 0 = .ok (.aload_n 0, 1) := by decide +kernel
theorem dX0_hasLegFrom_1 : decode cX0_hasLegFrom 1 = .ok (.getfield 27, 3) := by decide +kernel
theorem dX0_hasLegFrom_4 : decode cX0_hasLegFrom 4 = .ok (.iconst 1, 1) := by decide +kernel
theorem dX0_hasLegFrom_5 : decode cX0_hasLegFrom 5 = .ok (.iload_n 1, 1) := by decide +kernel
theorem dX0_hasLegFrom_6 : decode cX0_hasLegFrom 6 = .ok (.ishl, 1) := by decide +kernel
theorem dX0_hasLegFrom_7 : decode cX0_hasLegFrom 7 = .ok (.iand, 1) := by decide +kernel
theorem dX0_hasLegFrom_8 : decode cX0_hasLegFrom 8 = .ok (.ifCond .eq 7, 3) := by decide +kernel
theorem dX0_hasLegFrom_11 : decode cX0_hasLegFrom 11 = .ok (.iconst 1, 1) := by decide +kernel
theorem dX0_hasLegFrom_12 : decode cX0_hasLegFrom 12 = .ok (.goto 4, 3) := by decide +kernel
theorem dX0_hasLegFrom_15 : decode cX0_hasLegFrom 15 = .ok (.iconst 0, 1) := by decide +kernel
theorem dX0_hasLegFrom_16 : decode cX0_hasLegFrom 16 = .ok (.ireturn, 1) := by decide +kernel
theorem dX0_beganWithin_0 : decode cX0_beganWithin 0 = .ok (.iload_n 2, 1) := by decide +kernel
theorem dX0_beganWithin_1 : decode cX0_beganWithin 1 = .ok (.aload_n 0, 1) := by decide +kernel
theorem dX0_beganWithin_2 : decode cX0_beganWithin 2 = .ok (.getfield 21, 3) := by decide +kernel
theorem dX0_beganWithin_5 : decode cX0_beganWithin 5 = .ok (.isub, 1) := by decide +kernel
theorem dX0_beganWithin_6 : decode cX0_beganWithin 6 = .ok (.invokestatic 30, 3) := by decide +kernel
theorem dX0_beganWithin_9 : decode cX0_beganWithin 9 = .ok (.iload_n 1, 1) := by decide +kernel
theorem dX0_beganWithin_10 : decode cX0_beganWithin 10 = .ok (.if_icmp .gt 20, 3) := by decide +kernel
theorem dX0_beganWithin_13 : decode cX0_beganWithin 13 = .ok (.iload_n 3, 1) := by decide +kernel
theorem dX0_beganWithin_14 : decode cX0_beganWithin 14 = .ok (.aload_n 0, 1) := by decide +kernel
theorem dX0_beganWithin_15 : decode cX0_beganWithin 15 = .ok (.getfield 24, 3) := by decide +kernel
theorem dX0_beganWithin_18 : decode cX0_beganWithin 18 = .ok (.isub, 1) := by decide +kernel
theorem dX0_beganWithin_19 : decode cX0_beganWithin 19 = .ok (.invokestatic 30, 3) := by decide +kernel
theorem dX0_beganWithin_22 : decode cX0_beganWithin 22 = .ok (.iload_n 1, 1) := by decide +kernel
theorem dX0_beganWithin_23 : decode cX0_beganWithin 23 = .ok (.if_icmp .gt 7, 3) := by decide +kernel
theorem dX0_beganWithin_26 : decode cX0_beganWithin 26 = .ok (.iconst 1, 1) := by decide +kernel
theorem dX0_beganWithin_27 : decode cX0_beganWithin 27 = .ok (.goto 4, 3) := by decide +kernel
theorem dX0_beganWithin_30 : decode cX0_beganWithin 30 = .ok (.iconst 0, 1) := by decide +kernel
theorem dX0_beganWithin_31 : decode cX0_beganWithin 31 = .ok (.ireturn, 1) := by decide +kernel
theorem dX0_addLeg_0 : decode cX0_addLeg 0 = .ok (.aload_n 0, 1) := by decide +kernel
theorem dX0_addLeg_1 : decode cX0_addLeg 1 = .ok (.dup, 1) := by decide +kernel
theorem dX0_addLeg_2 : decode cX0_addLeg 2 = .ok (.getfield 27, 3) := by decide +kernel
theorem dX0_addLeg_5 : decode cX0_addLeg 5 = .ok (.iconst 1, 1) := by decide +kernel
theorem dX0_addLeg_6 : decode cX0_addLeg 6 = .ok (.iload_n 1, 1) := by decide +kernel
theorem dX0_addLeg_7 : decode cX0_addLeg 7 = .ok (.ishl, 1) := by decide +kernel
theorem dX0_addLeg_8 : decode cX0_addLeg 8 = .ok (.ior, 1) := by decide +kernel
theorem dX0_addLeg_9 : decode cX0_addLeg 9 = .ok (.putfield 27, 3) := by decide +kernel
theorem dX0_addLeg_12 : decode cX0_addLeg 12 = .ok (.aload_n 0, 1) := by decide +kernel
theorem dX0_addLeg_13 : decode cX0_addLeg 13 = .ok (.aload_n 0, 1) := by decide +kernel
theorem dX0_addLeg_14 : decode cX0_addLeg 14 = .ok (.getfield 36, 3) := by decide +kernel
theorem dX0_addLeg_17 : decode cX0_addLeg 17 = .ok (.iload_n 2, 1) := by decide +kernel
theorem dX0_addLeg_18 : decode cX0_addLeg 18 = .ok (.invokestatic 39, 3) := by decide +kernel
theorem dX0_addLeg_21 : decode cX0_addLeg 21 = .ok (.putfield 36, 3) := by decide +kernel
theorem dX0_addLeg_24 : decode cX0_addLeg 24 = .ok (.return_, 1) := by decide +kernel
theorem dX0_day_0 : decode cX0_day 0 = .ok (.aload_n 0, 1) := by decide +kernel
theorem dX0_day_1 : decode cX0_day 1 = .ok (.getfield 21, 3) := by decide +kernel
theorem dX0_day_4 : decode cX0_day 4 = .ok (.sipush 1000, 3) := by decide +kernel
theorem dX0_day_7 : decode cX0_day 7 = .ok (.idiv, 1) := by decide +kernel
theorem dX0_day_8 : decode cX0_day 8 = .ok (.ireturn, 1) := by decide +kernel
theorem dX0_isBooked_0 : decode cX0_isBooked 0 = .ok (.aload_n 0, 1) := by decide +kernel
theorem dX0_isBooked_1 : decode cX0_isBooked 1 = .ok (.getfield 9, 3) := by decide +kernel
theorem dX0_isBooked_4 : decode cX0_isBooked 4 = .ok (.iconst (-1), 1) := by decide +kernel
theorem dX0_isBooked_5 : decode cX0_isBooked 5 = .ok (.if_icmp .eq 7, 3) := by decide +kernel
theorem dX0_isBooked_8 : decode cX0_isBooked 8 = .ok (.iconst 1, 1) := by decide +kernel
theorem dX0_isBooked_9 : decode cX0_isBooked 9 = .ok (.goto 4, 3) := by decide +kernel
theorem dX0_isBooked_12 : decode cX0_isBooked 12 = .ok (.iconst 0, 1) := by decide +kernel
theorem dX0_isBooked_13 : decode cX0_isBooked 13 = .ok (.ireturn, 1) := by decide +kernel
set_option maxRecDepth 20000 in
theorem ggX0_bookedOrZero_X0_isBooked : GoodIn wsX0_bookedOrZero wsX0_isBooked := goodIn_r _ [6, 1, 7, 8, 9, 10, 11, 12, 13, 14] (by decide +kernel) (by decide +kernel)
set_option maxRecDepth 20000 in
theorem gX0_bookedOrZero_X0_isBooked : GoodIn wsX0_bookedOrZero (wsV RX0 43 RX0 yX0_isBooked wsX0_isBooked) := goodIn_app (goodIn_of _ (by decide +kernel)) ggX0_bookedOrZero_X0_isBooked
theorem dX0_bookedOrZero_0 : decode cX0_bookedOrZero 0 = .ok (.aload_n 0, 1) := by decide +kernel
theorem dX0_bookedOrZero_1 : decode cX0_bookedOrZero 1 = .ok (.invokevirtual 43, 3) := by decide +kernel
theorem dX0_bookedOrZero_4 : decode cX0_bookedOrZero 4 = .ok (.ifCond .eq 10, 3) := by decide +kernel
theorem dX0_bookedOrZero_7 : decode cX0_bookedOrZero 7 = .ok (.aload_n 0, 1) := by decide +kernel
theorem dX0_bookedOrZero_8 : decode cX0_bookedOrZero 8 = .ok (.getfield 9, 3) := by decide +kernel
theorem dX0_bookedOrZero_11 : decode cX0_bookedOrZero 11 = .ok (.goto 4, 3) := by decide +kernel
theorem dX0_bookedOrZero_14 : decode cX0_bookedOrZero 14 = .ok (.iconst 0, 1) := by decide +kernel
theorem dX0_bookedOrZero_15 : decode cX0_bookedOrZero 15 = .ok (.ireturn, 1) := by decide +kernel
set_option maxRecDepth 20000 in
theorem ggX0_disputed_X0_bookedOrZero : GoodIn wsX0_disputed wsX0_bookedOrZero := goodIn_r _ [6, 7, 8, 9, 10, 5, 11, 12, 13, 14, 15, 16, 17, 18, 19] (by decide +kernel) (by decide +kernel)
set_option maxRecDepth 20000 in
theorem gX0_disputed_X0_bookedOrZero : GoodIn wsX0_disputed (wsV RX0 50 RX0 yX0_bookedOrZero wsX0_bookedOrZero) := goodIn_app (goodIn_of _ (by decide +kernel)) ggX0_disputed_X0_bookedOrZero
theorem dX0_disputed_0 : decode cX0_disputed 0 = .ok (.aload_n 0, 1) := by decide +kernel
theorem dX0_disputed_1 : decode cX0_disputed 1 = .ok (.getfield 47, 3) := by decide +kernel
theorem dX0_disputed_4 : decode cX0_disputed 4 = .ok (.aload_n 0, 1) := by decide +kernel
theorem dX0_disputed_5 : decode cX0_disputed 5 = .ok (.invokevirtual 50, 3) := by decide +kernel
theorem dX0_disputed_8 : decode cX0_disputed 8 = .ok (.isub, 1) := by decide +kernel
theorem dX0_disputed_9 : decode cX0_disputed 9 = .ok (.ireturn, 1) := by decide +kernel
theorem dX1_init_0 : decode cX1_init 0 = .ok (.aload_n 0, 1) := by decide +kernel
theorem dX1_init_1 : decode cX1_init 1 = .ok (.invokespecial 3, 3) := by decide +kernel
theorem dX1_init_4 : decode cX1_init 4 = .ok (.aload_n 0, 1) := by decide +kernel
theorem dX1_init_5 : decode cX1_init 5 = .ok (.bipush 10, 2) := by decide +kernel
theorem dX1_init_7 : decode cX1_init 7 = .ok (.newarray .int, 2) := by decide +kernel
theorem dX1_init_9 : decode cX1_init 9 = .ok (.putfield 9, 3) := by decide +kernel
theorem dX1_init_12 : decode cX1_init 12 = .ok (.aload_n 0, 1) := by decide +kernel
theorem dX1_init_13 : decode cX1_init 13 = .ok (.bipush 10, 2) := by decide +kernel
theorem dX1_init_15 : decode cX1_init 15 = .ok (.newarray .int, 2) := by decide +kernel
theorem dX1_init_17 : decode cX1_init 17 = .ok (.putfield 15, 3) := by decide +kernel
theorem dX1_init_20 : decode cX1_init 20 = .ok (.return_, 1) := by decide +kernel
set_option maxRecDepth 20000 in
theorem ggX1_hasPlaceFor_X1_placeOf : GoodIn wsX1_hasPlaceFor wsX1_placeOf := goodIn_r _ [5, 6, 7, 8] (by decide +kernel) (by decide +kernel)
set_option maxRecDepth 20000 in
theorem gX1_hasPlaceFor_X1_placeOf : GoodIn wsX1_hasPlaceFor (wsV RX1 18 RX1 yX1_placeOf wsX1_placeOf) := goodIn_app (goodIn_of _ (by decide +kernel)) ggX1_hasPlaceFor_X1_placeOf
theorem dX1_hasPlaceFor_0 : decode cX1_hasPlaceFor 0 = .ok (.aload_n 0, 1) := by decide +kernel
theorem dX1_hasPlaceFor_1 : decode cX1_hasPlaceFor 1 = .ok (.iload_n 1, 1) := by decide +kernel
theorem dX1_hasPlaceFor_2 : decode cX1_hasPlaceFor 2 = .ok (.invokevirtual 18, 3) := by decide +kernel
theorem dX1_hasPlaceFor_5 : decode cX1_hasPlaceFor 5 = .ok (.iconst (-1), 1) := by decide +kernel
theorem dX1_hasPlaceFor_6 : decode cX1_hasPlaceFor 6 = .ok (.if_icmp .ne 12, 3) := by decide +kernel
theorem dX1_hasPlaceFor_9 : decode cX1_hasPlaceFor 9 = .ok (.aload_n 0, 1) := by decide +kernel
theorem dX1_hasPlaceFor_10 : decode cX1_hasPlaceFor 10 = .ok (.iconst 0, 1) := by decide +kernel
theorem dX1_hasPlaceFor_11 : decode cX1_hasPlaceFor 11 = .ok (.invokevirtual 18, 3) := by decide +kernel
theorem dX1_hasPlaceFor_14 : decode cX1_hasPlaceFor 14 = .ok (.iconst (-1), 1) := by decide +kernel
theorem dX1_hasPlaceFor_15 : decode cX1_hasPlaceFor 15 = .ok (.if_icmp .eq 7, 3) := by decide +kernel
theorem dX1_hasPlaceFor_18 : decode cX1_hasPlaceFor 18 = .ok (.iconst 1, 1) := by decide +kernel
theorem dX1_hasPlaceFor_19 : decode cX1_hasPlaceFor 19 = .ok (.goto 4, 3) := by decide +kernel
theorem dX1_hasPlaceFor_22 : decode cX1_hasPlaceFor 22 = .ok (.iconst 0, 1) := by decide +kernel
theorem dX1_hasPlaceFor_23 : decode cX1_hasPlaceFor 23 = .ok (.ireturn, 1) := by decide +kernel
set_option maxRecDepth 20000 in
theorem ggX1_replacePrice_X1_placeOf : GoodIn wsX1_replacePrice wsX1_placeOf := goodIn_r _ [7, 2, 8, 9] (by decide +kernel) (by decide +kernel)
set_option maxRecDepth 20000 in
theorem gX1_replacePrice_X1_placeOf : GoodIn wsX1_replacePrice (wsV RX1 18 RX1 yX1_placeOf wsX1_placeOf) := goodIn_app (goodIn_of _ (by decide +kernel)) ggX1_replacePrice_X1_placeOf
theorem dX1_replacePrice_0 : decode cX1_replacePrice 0 = .ok (.aload_n 0, 1) := by decide +kernel
theorem dX1_replacePrice_1 : decode cX1_replacePrice 1 = .ok (.iload_n 1, 1) := by decide +kernel
theorem dX1_replacePrice_2 : decode cX1_replacePrice 2 = .ok (.invokevirtual 18, 3) := by decide +kernel
theorem dX1_replacePrice_5 : decode cX1_replacePrice 5 = .ok (.istore_n 3, 1) := by decide +kernel
theorem dX1_replacePrice_6 : decode cX1_replacePrice 6 = .ok (.iload_n 3, 1) := by decide +kernel
theorem dX1_replacePrice_7 : decode cX1_replacePrice 7 = .ok (.iconst (-1), 1) := by decide +kernel
theorem dX1_replacePrice_8 : decode cX1_replacePrice 8 = .ok (.if_icmp .ne 7, 3) := by decide +kernel
theorem dX1_replacePrice_11 : decode cX1_replacePrice 11 = .ok (.iconst (-1), 1) := by decide +kernel
theorem dX1_replacePrice_12 : decode cX1_replacePrice 12 = .ok (.goto 9, 3) := by decide +kernel
theorem dX1_replacePrice_15 : decode cX1_replacePrice 15 = .ok (.aload_n 0, 1) := by decide +kernel
theorem dX1_replacePrice_16 : decode cX1_replacePrice 16 = .ok (.getfield 15, 3) := by decide +kernel
theorem dX1_replacePrice_19 : decode cX1_replacePrice 19 = .ok (.iload_n 3, 1) := by decide +kernel
theorem dX1_replacePrice_20 : decode cX1_replacePrice 20 = .ok (.iaload, 1) := by decide +kernel
theorem dX1_replacePrice_21 : decode cX1_replacePrice 21 = .ok (.istore 4, 2) := by decide +kernel
theorem dX1_replacePrice_23 : decode cX1_replacePrice 23 = .ok (.iload_n 3, 1) := by decide +kernel
theorem dX1_replacePrice_24 : decode cX1_replacePrice 24 = .ok (.iconst (-1), 1) := by decide +kernel
theorem dX1_replacePrice_25 : decode cX1_replacePrice 25 = .ok (.if_icmp .ne 9, 3) := by decide +kernel
theorem dX1_replacePrice_28 : decode cX1_replacePrice 28 = .ok (.aload_n 0, 1) := by decide +kernel
theorem dX1_replacePrice_29 : decode cX1_replacePrice 29 = .ok (.iconst 0, 1) := by decide +kernel
theorem dX1_replacePrice_30 : decode cX1_replacePrice 30 = .ok (.invokevirtual 18, 3) := by decide +kernel
theorem dX1_replacePrice_33 : decode cX1_replacePrice 33 = .ok (.istore_n 3, 1) := by decide +kernel
theorem dX1_replacePrice_34 : decode cX1_replacePrice 34 = .ok (.iload_n 3, 1) := by decide +kernel
theorem dX1_replacePrice_35 : decode cX1_replacePrice 35 = .ok (.iconst (-1), 1) := by decide +kernel
theorem dX1_replacePrice_36 : decode cX1_replacePrice 36 = .ok (.if_icmp .eq 26, 3) := by decide +kernel
theorem dX1_replacePrice_39 : decode cX1_replacePrice 39 = .ok (.aload_n 0, 1) := by decide +kernel
theorem dX1_replacePrice_40 : decode cX1_replacePrice 40 = .ok (.getfield 9, 3) := by decide +kernel
theorem dX1_replacePrice_43 : decode cX1_replacePrice 43 = .ok (.iload_n 3, 1) := by decide +kernel
theorem dX1_replacePrice_44 : decode cX1_replacePrice 44 = .ok (.iload_n 2, 1) := by decide +kernel
theorem dX1_replacePrice_45 : decode cX1_replacePrice 45 = .ok (.iconst (-1), 1) := by decide +kernel
theorem dX1_replacePrice_46 : decode cX1_replacePrice 46 = .ok (.if_icmp .ne 7, 3) := by decide +kernel
theorem dX1_replacePrice_49 : decode cX1_replacePrice 49 = .ok (.iconst 0, 1) := by decide +kernel
theorem dX1_replacePrice_50 : decode cX1_replacePrice 50 = .ok (.goto 4, 3) := by decide +kernel
theorem dX1_replacePrice_53 : decode cX1_replacePrice 53 = .ok (.iload_n 1, 1) := by decide +kernel
theorem dX1_replacePrice_54 : decode cX1_replacePrice 54 = .ok (.iastore, 1) := by decide +kernel
theorem dX1_replacePrice_55 : decode cX1_replacePrice 55 = .ok (.aload_n 0, 1) := by decide +kernel
theorem dX1_replacePrice_56 : decode cX1_replacePrice 56 = .ok (.getfield 15, 3) := by decide +kernel
theorem dX1_replacePrice_59 : decode cX1_replacePrice 59 = .ok (.iload_n 3, 1) := by decide +kernel
theorem dX1_replacePrice_60 : decode cX1_replacePrice 60 = .ok (.iload_n 2, 1) := by decide +kernel
theorem dX1_replacePrice_61 : decode cX1_replacePrice 61 = .ok (.iastore, 1) := by decide +kernel
theorem dX1_replacePrice_62 : decode cX1_replacePrice 62 = .ok (.iload 4, 2) := by decide +kernel
theorem dX1_replacePrice_64 : decode cX1_replacePrice 64 = .ok (.ireturn, 1) := by decide +kernel
set_option maxRecDepth 20000 in
theorem ggX1_priceFor_X4_fits : GoodIn wsX1_priceFor wsX4_fits := goodIn_r _ [5] (by decide +kernel) (by decide +kernel)
set_option maxRecDepth 20000 in
theorem gX1_priceFor_X4_fits_n22 : GoodIn wsX1_priceFor (wsX4_fits) := ggX1_priceFor_X4_fits
theorem dX1_priceFor_0 : decode cX1_priceFor 0 = .ok (.iconst 0, 1) := by decide +kernel
theorem dX1_priceFor_1 : decode cX1_priceFor 1 = .ok (.istore_n 2, 1) := by decide +kernel
theorem dX1_priceFor_2 : decode cX1_priceFor 2 = .ok (.iconst (-1), 1) := by decide +kernel
theorem dX1_priceFor_3 : decode cX1_priceFor 3 = .ok (.istore_n 3, 1) := by decide +kernel
theorem dX1_priceFor_4 : decode cX1_priceFor 4 = .ok (.iconst 0, 1) := by decide +kernel
theorem dX1_priceFor_5 : decode cX1_priceFor 5 = .ok (.istore 4, 2) := by decide +kernel
theorem dX1_priceFor_7 : decode cX1_priceFor 7 = .ok (.iload 4, 2) := by decide +kernel
theorem dX1_priceFor_9 : decode cX1_priceFor 9 = .ok (.bipush 10, 2) := by decide +kernel
theorem dX1_priceFor_11 : decode cX1_priceFor 11 = .ok (.if_icmp .ge 50, 3) := by decide +kernel
theorem dX1_priceFor_14 : decode cX1_priceFor 14 = .ok (.aload_n 0, 1) := by decide +kernel
theorem dX1_priceFor_15 : decode cX1_priceFor 15 = .ok (.getfield 9, 3) := by decide +kernel
theorem dX1_priceFor_18 : decode cX1_priceFor 18 = .ok (.iload 4, 2) := by decide +kernel
theorem dX1_priceFor_20 : decode cX1_priceFor 20 = .ok (.iaload, 1) := by decide +kernel
theorem dX1_priceFor_21 : decode cX1_priceFor 21 = .ok (.iload_n 2, 1) := by decide +kernel
theorem dX1_priceFor_22 : decode cX1_priceFor 22 = .ok (.if_icmp .le 33, 3) := by decide +kernel
theorem dX1_priceFor_25 : decode cX1_priceFor 25 = .ok (.aload_n 0, 1) := by decide +kernel
theorem dX1_priceFor_26 : decode cX1_priceFor 26 = .ok (.getfield 9, 3) := by decide +kernel
theorem dX1_priceFor_29 : decode cX1_priceFor 29 = .ok (.iload 4, 2) := by decide +kernel
theorem dX1_priceFor_31 : decode cX1_priceFor 31 = .ok (.iaload, 1) := by decide +kernel
theorem dX1_priceFor_32 : decode cX1_priceFor 32 = .ok (.iload_n 1, 1) := by decide +kernel
theorem dX1_priceFor_33 : decode cX1_priceFor 33 = .ok (.invokestatic 22, 3) := by decide +kernel
theorem dX1_priceFor_36 : decode cX1_priceFor 36 = .ok (.ifCond .eq 19, 3) := by decide +kernel
theorem dX1_priceFor_39 : decode cX1_priceFor 39 = .ok (.aload_n 0, 1) := by decide +kernel
theorem dX1_priceFor_40 : decode cX1_priceFor 40 = .ok (.getfield 9, 3) := by decide +kernel
theorem dX1_priceFor_43 : decode cX1_priceFor 43 = .ok (.iload 4, 2) := by decide +kernel
theorem dX1_priceFor_45 : decode cX1_priceFor 45 = .ok (.iaload, 1) := by decide +kernel
theorem dX1_priceFor_46 : decode cX1_priceFor 46 = .ok (.istore_n 2, 1) := by decide +kernel
theorem dX1_priceFor_47 : decode cX1_priceFor 47 = .ok (.aload_n 0, 1) := by decide +kernel
theorem dX1_priceFor_48 : decode cX1_priceFor 48 = .ok (.getfield 15, 3) := by decide +kernel
theorem dX1_priceFor_51 : decode cX1_priceFor 51 = .ok (.iload 4, 2) := by decide +kernel
theorem dX1_priceFor_53 : decode cX1_priceFor 53 = .ok (.iaload, 1) := by decide +kernel
theorem dX1_priceFor_54 : decode cX1_priceFor 54 = .ok (.istore_n 3, 1) := by decide +kernel
theorem dX1_priceFor_55 : decode cX1_priceFor 55 = .ok (.iinc 4 1, 3) := by decide +kernel
theorem dX1_priceFor_58 : decode cX1_priceFor 58 = .ok (.goto (-51), 3) := by decide +kernel
theorem dX1_priceFor_61 : decode cX1_priceFor 61 = .ok (.iload_n 3, 1) := by decide +kernel
theorem dX1_priceFor_62 : decode cX1_priceFor 62 = .ok (.ireturn, 1) := by decide +kernel
theorem dX1_placeOf_0 : decode cX1_placeOf 0 = .ok (.iconst 0, 1) := by decide +kernel
theorem dX1_placeOf_1 : decode cX1_placeOf 1 = .ok (.istore_n 2, 1) := by decide +kernel
theorem dX1_placeOf_2 : decode cX1_placeOf 2 = .ok (.iload_n 2, 1) := by decide +kernel
theorem dX1_placeOf_3 : decode cX1_placeOf 3 = .ok (.bipush 10, 2) := by decide +kernel
theorem dX1_placeOf_5 : decode cX1_placeOf 5 = .ok (.if_icmp .ge 21, 3) := by decide +kernel
theorem dX1_placeOf_8 : decode cX1_placeOf 8 = .ok (.aload_n 0, 1) := by decide +kernel
theorem dX1_placeOf_9 : decode cX1_placeOf 9 = .ok (.getfield 9, 3) := by decide +kernel
theorem dX1_placeOf_12 : decode cX1_placeOf 12 = .ok (.iload_n 2, 1) := by decide +kernel
theorem dX1_placeOf_13 : decode cX1_placeOf 13 = .ok (.iaload, 1) := by decide +kernel
theorem dX1_placeOf_14 : decode cX1_placeOf 14 = .ok (.iload_n 1, 1) := by decide +kernel
theorem dX1_placeOf_15 : decode cX1_placeOf 15 = .ok (.if_icmp .ne 5, 3) := by decide +kernel
theorem dX1_placeOf_18 : decode cX1_placeOf 18 = .ok (.iload_n 2, 1) := by decide +kernel
theorem dX1_placeOf_19 : decode cX1_placeOf 19 = .ok (.ireturn, 1) := by decide +kernel
theorem dX1_placeOf_20 : decode cX1_placeOf 20 = .ok (.iinc 2 1, 3) := by decide +kernel
theorem dX1_placeOf_23 : decode cX1_placeOf 23 = .ok (.goto (-21), 3) := by decide +kernel
theorem dX1_placeOf_26 : decode cX1_placeOf 26 = .ok (.iconst (-1), 1) := by decide +kernel
theorem dX1_placeOf_27 : decode cX1_placeOf 27 = .ok (.ireturn, 1) := by decide +kernel
theorem dX2_init_0 : decode cX2_init 0 = .ok (.aload_n 0, 1) := by decide +kernel
theorem dX2_init_1 : decode cX2_init 1 = .ok (.invokespecial 3, 3) := by decide +kernel
theorem dX2_init_4 : decode cX2_init 4 = .ok (.aload_n 0, 1) := by decide +kernel
theorem dX2_init_5 : decode cX2_init 5 = .ok (.iload_n 1, 1) := by decide +kernel
theorem dX2_init_6 : decode cX2_init 6 = .ok (.putfield 9, 3) := by decide +kernel
theorem dX2_init_9 : decode cX2_init 9 = .ok (.aload_n 0, 1) := by decide +kernel
theorem dX2_init_10 : decode cX2_init 10 = .ok (.iload_n 2, 1) := by decide +kernel
theorem dX2_init_11 : decode cX2_init 11 = .ok (.putfield 15, 3) := by decide +kernel
theorem dX2_init_14 : decode cX2_init 14 = .ok (.aload_n 0, 1) := by decide +kernel
theorem dX2_init_15 : decode cX2_init 15 = .ok (.iload_n 3, 1) := by decide +kernel
theorem dX2_init_16 : decode cX2_init 16 = .ok (.putfield 18, 3) := by decide +kernel
theorem dX2_init_19 : decode cX2_init 19 = .ok (.aload_n 0, 1) := by decide +kernel
theorem dX2_init_20 : decode cX2_init 20 = .ok (.iload 4, 2) := by decide +kernel
theorem dX2_init_22 : decode cX2_init 22 = .ok (.putfield 21, 3) := by decide +kernel
theorem dX2_init_25 : decode cX2_init 25 = .ok (.aload_n 0, 1) := by decide +kernel
theorem dX2_init_26 : decode cX2_init 26 = .ok (.iload 5, 2) := by decide +kernel
theorem dX2_init_28 : decode cX2_init 28 = .ok (.putfield 24, 3) := by decide +kernel
theorem dX2_init_31 : decode cX2_init 31 = .ok (.aload_n 0, 1) := by decide +kernel
theorem dX2_init_32 : decode cX2_init 32 = .ok (.iload 6, 2) := by decide +kernel
theorem dX2_init_34 : decode cX2_init 34 = .ok (.putfield 27, 3) := by decide +kernel
theorem dX2_init_37 : decode cX2_init 37 = .ok (.aload_n 0, 1) := by decide +kernel
theorem dX2_init_38 : decode cX2_init 38 = .ok (.iload 7, 2) := by decide +kernel
theorem dX2_init_40 : decode cX2_init 40 = .ok (.putfield 30, 3) := by decide +kernel
theorem dX2_init_43 : decode cX2_init 43 = .ok (.return_, 1) := by decide +kernel
theorem dX2_goesBefore_0 : decode cX2_goesBefore 0 = .ok (.aload_n 0, 1) := by decide +kernel
theorem dX2_goesBefore_1 : decode cX2_goesBefore 1 = .ok (.getfield 15, 3) := by decide +kernel
theorem dX2_goesBefore_4 : decode cX2_goesBefore 4 = .ok (.aload_n 1, 1) := by decide +kernel
theorem dX2_goesBefore_5 : decode cX2_goesBefore 5 = .ok (.getfield 15, 3) := by decide +kernel
theorem dX2_goesBefore_8 : decode cX2_goesBefore 8 = .ok (.if_icmp .eq 20, 3) := by decide +kernel
theorem dX2_goesBefore_11 : decode cX2_goesBefore 11 = .ok (.aload_n 0, 1) := by decide +kernel
theorem dX2_goesBefore_12 : decode cX2_goesBefore 12 = .ok (.getfield 15, 3) := by decide +kernel
theorem dX2_goesBefore_15 : decode cX2_goesBefore 15 = .ok (.aload_n 1, 1) := by decide +kernel
theorem dX2_goesBefore_16 : decode cX2_goesBefore 16 = .ok (.getfield 15, 3) := by decide +kernel
theorem dX2_goesBefore_19 : decode cX2_goesBefore 19 = .ok (.if_icmp .le 7, 3) := by decide +kernel
theorem dX2_goesBefore_22 : decode cX2_goesBefore 22 = .ok (.iconst 1, 1) := by decide +kernel
theorem dX2_goesBefore_23 : decode cX2_goesBefore 23 = .ok (.goto 4, 3) := by decide +kernel
theorem dX2_goesBefore_26 : decode cX2_goesBefore 26 = .ok (.iconst 0, 1) := by decide +kernel
theorem dX2_goesBefore_27 : decode cX2_goesBefore 27 = .ok (.ireturn, 1) := by decide +kernel
theorem dX2_goesBefore_28 : decode cX2_goesBefore 28 = .ok (.aload_n 0, 1) := by decide +kernel
theorem dX2_goesBefore_29 : decode cX2_goesBefore 29 = .ok (.getfield 18, 3) := by decide +kernel
theorem dX2_goesBefore_32 : decode cX2_goesBefore 32 = .ok (.aload_n 1, 1) := by decide +kernel
theorem dX2_goesBefore_33 : decode cX2_goesBefore 33 = .ok (.getfield 18, 3) := by decide +kernel
theorem dX2_goesBefore_36 : decode cX2_goesBefore 36 = .ok (.if_icmp .eq 22, 3) := by decide +kernel
theorem dX2_goesBefore_39 : decode cX2_goesBefore 39 = .ok (.aload_n 0, 1) := by decide +kernel
theorem dX2_goesBefore_40 : decode cX2_goesBefore 40 = .ok (.getfield 18, 3) := by decide +kernel
theorem dX2_goesBefore_43 : decode cX2_goesBefore 43 = .ok (.aload_n 1, 1) := by decide +kernel
theorem dX2_goesBefore_44 : decode cX2_goesBefore 44 = .ok (.getfield 18, 3) := by decide +kernel
theorem dX2_goesBefore_47 : decode cX2_goesBefore 47 = .ok (.if_icmp .le 7, 3) := by decide +kernel
theorem dX2_goesBefore_50 : decode cX2_goesBefore 50 = .ok (.iconst 1, 1) := by decide +kernel
theorem dX2_goesBefore_51 : decode cX2_goesBefore 51 = .ok (.goto 23, 3) := by decide +kernel
theorem dX2_goesBefore_54 : decode cX2_goesBefore 54 = .ok (.iconst 0, 1) := by decide +kernel
theorem dX2_goesBefore_55 : decode cX2_goesBefore 55 = .ok (.goto 19, 3) := by decide +kernel
theorem dX2_goesBefore_58 : decode cX2_goesBefore 58 = .ok (.aload_n 0, 1) := by decide +kernel
theorem dX2_goesBefore_59 : decode cX2_goesBefore 59 = .ok (.getfield 9, 3) := by decide +kernel
theorem dX2_goesBefore_62 : decode cX2_goesBefore 62 = .ok (.aload_n 1, 1) := by decide +kernel
theorem dX2_goesBefore_63 : decode cX2_goesBefore 63 = .ok (.getfield 9, 3) := by decide +kernel
theorem dX2_goesBefore_66 : decode cX2_goesBefore 66 = .ok (.if_icmp .le 7, 3) := by decide +kernel
theorem dX2_goesBefore_69 : decode cX2_goesBefore 69 = .ok (.iconst 1, 1) := by decide +kernel
theorem dX2_goesBefore_70 : decode cX2_goesBefore 70 = .ok (.goto 4, 3) := by decide +kernel
theorem dX2_goesBefore_73 : decode cX2_goesBefore 73 = .ok (.iconst 0, 1) := by decide +kernel
theorem dX2_goesBefore_74 : decode cX2_goesBefore 74 = .ok (.ireturn, 1) := by decide +kernel
set_option maxRecDepth 20000 in
theorem ggX2_chargeFor_X2_quotientUp : GoodIn wsX2_chargeFor wsX2_quotientUp := goodIn_r _ [12] (by decide +kernel) (by decide +kernel)
set_option maxRecDepth 20000 in
theorem gX2_chargeFor_X2_quotientUp : GoodIn wsX2_chargeFor (va_wsS RX2 33 yX2_quotientUp wsX2_quotientUp) := goodIn_app (goodIn_of _ (by decide +kernel)) ggX2_chargeFor_X2_quotientUp
theorem dX2_chargeFor_0 : decode cX2_chargeFor 0 = .ok (.iload_n 1, 1) := by decide +kernel
theorem dX2_chargeFor_1 : decode cX2_chargeFor 1 = .ok (.aload_n 0, 1) := by decide +kernel
theorem dX2_chargeFor_2 : decode cX2_chargeFor 2 = .ok (.getfield 24, 3) := by decide +kernel
theorem dX2_chargeFor_5 : decode cX2_chargeFor 5 = .ok (.invokestatic 33, 3) := by decide +kernel
theorem dX2_chargeFor_8 : decode cX2_chargeFor 8 = .ok (.aload_n 0, 1) := by decide +kernel
theorem dX2_chargeFor_9 : decode cX2_chargeFor 9 = .ok (.getfield 24, 3) := by decide +kernel
theorem dX2_chargeFor_12 : decode cX2_chargeFor 12 = .ok (.imul, 1) := by decide +kernel
theorem dX2_chargeFor_13 : decode cX2_chargeFor 13 = .ok (.aload_n 0, 1) := by decide +kernel
theorem dX2_chargeFor_14 : decode cX2_chargeFor 14 = .ok (.getfield 27, 3) := by decide +kernel
theorem dX2_chargeFor_17 : decode cX2_chargeFor 17 = .ok (.invokestatic 37, 3) := by decide +kernel
theorem dX2_chargeFor_20 : decode cX2_chargeFor 20 = .ok (.istore_n 2, 1) := by decide +kernel
theorem dX2_chargeFor_21 : decode cX2_chargeFor 21 = .ok (.aload_n 0, 1) := by decide +kernel
theorem dX2_chargeFor_22 : decode cX2_chargeFor 22 = .ok (.getfield 30, 3) := by decide +kernel
theorem dX2_chargeFor_25 : decode cX2_chargeFor 25 = .ok (.aload_n 0, 1) := by decide +kernel
theorem dX2_chargeFor_26 : decode cX2_chargeFor 26 = .ok (.getfield 21, 3) := by decide +kernel
theorem dX2_chargeFor_29 : decode cX2_chargeFor 29 = .ok (.iload_n 2, 1) := by decide +kernel
theorem dX2_chargeFor_30 : decode cX2_chargeFor 30 = .ok (.imul, 1) := by decide +kernel
theorem dX2_chargeFor_31 : decode cX2_chargeFor 31 = .ok (.bipush 60, 2) := by decide +kernel
theorem dX2_chargeFor_33 : decode cX2_chargeFor 33 = .ok (.invokestatic 33, 3) := by decide +kernel
theorem dX2_chargeFor_36 : decode cX2_chargeFor 36 = .ok (.iadd, 1) := by decide +kernel
theorem dX2_chargeFor_37 : decode cX2_chargeFor 37 = .ok (.ireturn, 1) := by decide +kernel
theorem dX2_quotientUp_0 : decode cX2_quotientUp 0 = .ok (.iload_n 1, 1) := by decide +kernel
theorem dX2_quotientUp_1 : decode cX2_quotientUp 1 = .ok (.iconst 1, 1) := by decide +kernel
theorem dX2_quotientUp_2 : decode cX2_quotientUp 2 = .ok (.if_icmp .ge 7, 3) := by decide +kernel
theorem dX2_quotientUp_5 : decode cX2_quotientUp 5 = .ok (.iconst 0, 1) := by decide +kernel
theorem dX2_quotientUp_6 : decode cX2_quotientUp 6 = .ok (.goto 10, 3) := by decide +kernel
theorem dX2_quotientUp_9 : decode cX2_quotientUp 9 = .ok (.iload_n 0, 1) := by decide +kernel
theorem dX2_quotientUp_10 : decode cX2_quotientUp 10 = .ok (.iload_n 1, 1) := by decide +kernel
theorem dX2_quotientUp_11 : decode cX2_quotientUp 11 = .ok (.iadd, 1) := by decide +kernel
theorem dX2_quotientUp_12 : decode cX2_quotientUp 12 = .ok (.iconst 1, 1) := by decide +kernel
theorem dX2_quotientUp_13 : decode cX2_quotientUp 13 = .ok (.isub, 1) := by decide +kernel
theorem dX2_quotientUp_14 : decode cX2_quotientUp 14 = .ok (.iload_n 1, 1) := by decide +kernel
theorem dX2_quotientUp_15 : decode cX2_quotientUp 15 = .ok (.idiv, 1) := by decide +kernel
theorem dX2_quotientUp_16 : decode cX2_quotientUp 16 = .ok (.ireturn, 1) := by decide +kernel
theorem dX3_init_0 : decode cX3_init 0 = .ok (.aload_n 0, 1) := by decide +kernel
theorem dX3_init_1 : decode cX3_init 1 = .ok (.invokespecial 3, 3) := by decide +kernel
theorem dX3_init_4 : decode cX3_init 4 = .ok (.aload_n 0, 1) := by decide +kernel
theorem dX3_init_5 : decode cX3_init 5 = .ok (.sipush 157, 3) := by decide +kernel
theorem dX3_init_8 : decode cX3_init 8 = .ok (.newarray .long, 2) := by decide +kernel
theorem dX3_init_10 : decode cX3_init 10 = .ok (.putfield 11, 3) := by decide +kernel
theorem dX3_init_13 : decode cX3_init 13 = .ok (.aload_n 0, 1) := by decide +kernel
theorem dX3_init_14 : decode cX3_init 14 = .ok (.sipush 9999, 3) := by decide +kernel
theorem dX3_init_17 : decode cX3_init 17 = .ok (.putfield 15, 3) := by decide +kernel
theorem dX3_init_20 : decode cX3_init 20 = .ok (.return_, 1) := by decide +kernel
set_option maxRecDepth 20000 in
theorem ggX3_has_X3_bitOf : GoodIn wsX3_has wsX3_bitOf := goodIn_r _ [5] (by decide +kernel) (by decide +kernel)
set_option maxRecDepth 20000 in
theorem gX3_has_X3_bitOf : GoodIn wsX3_has (va_wsS RX3 19 yX3_bitOf wsX3_bitOf) := goodIn_app (goodIn_of _ (by decide +kernel)) ggX3_has_X3_bitOf
theorem dX3_has_0 : decode cX3_has 0 = .ok (.iload_n 1, 1) := by decide +kernel
theorem dX3_has_1 : decode cX3_has 1 = .ok (.bipush 64, 2) := by decide +kernel
theorem dX3_has_3 : decode cX3_has 3 = .ok (.idiv, 1) := by decide +kernel
theorem dX3_has_4 : decode cX3_has 4 = .ok (.istore_n 2, 1) := by decide +kernel
theorem dX3_has_5 : decode cX3_has 5 = .ok (.iload_n 1, 1) := by decide +kernel
theorem dX3_has_6 : decode cX3_has 6 = .ok (.ifCond .lt 32, 3) := by decide +kernel
theorem dX3_has_9 : decode cX3_has 9 = .ok (.iload_n 2, 1) := by decide +kernel
theorem dX3_has_10 : decode cX3_has 10 = .ok (.aload_n 0, 1) := by decide +kernel
theorem dX3_has_11 : decode cX3_has 11 = .ok (.getfield 11, 3) := by decide +kernel
theorem dX3_has_14 : decode cX3_has 14 = .ok (.arraylength, 1) := by decide +kernel
theorem dX3_has_15 : decode cX3_has 15 = .ok (.if_icmp .ge 23, 3) := by decide +kernel
theorem dX3_has_18 : decode cX3_has 18 = .ok (.aload_n 0, 1) := by decide +kernel
theorem dX3_has_19 : decode cX3_has 19 = .ok (.getfield 11, 3) := by decide +kernel
theorem dX3_has_22 : decode cX3_has 22 = .ok (.iload_n 2, 1) := by decide +kernel
theorem dX3_has_23 : decode cX3_has 23 = .ok (.laload, 1) := by decide +kernel
theorem dX3_has_24 : decode cX3_has 24 = .ok (.iload_n 1, 1) := by decide +kernel
theorem dX3_has_25 : decode cX3_has 25 = .ok (.invokestatic 19, 3) := by decide +kernel
theorem dX3_has_28 : decode cX3_has 28 = .ok (.land, 1) := by decide +kernel
theorem dX3_has_29 : decode cX3_has 29 = .ok (.lconst 0, 1) := by decide +kernel
theorem dX3_has_30 : decode cX3_has 30 = .ok (.lcmp, 1) := by decide +kernel
theorem dX3_has_31 : decode cX3_has 31 = .ok (.ifCond .eq 7, 3) := by decide +kernel
theorem dX3_has_34 : decode cX3_has 34 = .ok (.iconst 1, 1) := by decide +kernel
theorem dX3_has_35 : decode cX3_has 35 = .ok (.goto 4, 3) := by decide +kernel
theorem dX3_has_38 : decode cX3_has 38 = .ok (.iconst 0, 1) := by decide +kernel
theorem dX3_has_39 : decode cX3_has 39 = .ok (.ireturn, 1) := by decide +kernel
set_option maxRecDepth 20000 in
theorem ggX3_add_X3_bitOf : GoodIn wsX3_add wsX3_bitOf := goodIn_r _ [15] (by decide +kernel) (by decide +kernel)
set_option maxRecDepth 20000 in
theorem gX3_add_X3_bitOf : GoodIn wsX3_add (va_wsS RX3 19 yX3_bitOf wsX3_bitOf) := goodIn_app (goodIn_of _ (by decide +kernel)) ggX3_add_X3_bitOf
theorem dX3_add_0 : decode cX3_add 0 = .ok (.iload_n 1, 1) := by decide +kernel
theorem dX3_add_1 : decode cX3_add 1 = .ok (.bipush 64, 2) := by decide +kernel
theorem dX3_add_3 : decode cX3_add 3 = .ok (.idiv, 1) := by decide +kernel
theorem dX3_add_4 : decode cX3_add 4 = .ok (.istore_n 2, 1) := by decide +kernel
theorem dX3_add_5 : decode cX3_add 5 = .ok (.iload_n 1, 1) := by decide +kernel
theorem dX3_add_6 : decode cX3_add 6 = .ok (.ifCond .lt 12, 3) := by decide +kernel
theorem dX3_add_9 : decode cX3_add 9 = .ok (.iload_n 2, 1) := by decide +kernel
theorem dX3_add_10 : decode cX3_add 10 = .ok (.aload_n 0, 1) := by decide +kernel
theorem dX3_add_11 : decode cX3_add 11 = .ok (.getfield 11, 3) := by decide +kernel
theorem dX3_add_14 : decode cX3_add 14 = .ok (.arraylength, 1) := by decide +kernel
theorem dX3_add_15 : decode cX3_add 15 = .ok (.if_icmp .lt 4, 3) := by decide +kernel
theorem dX3_add_18 : decode cX3_add 18 = .ok (.return_, 1) := by decide +kernel
theorem dX3_add_19 : decode cX3_add 19 = .ok (.aload_n 0, 1) := by decide +kernel
theorem dX3_add_20 : decode cX3_add 20 = .ok (.getfield 11, 3) := by decide +kernel
theorem dX3_add_23 : decode cX3_add 23 = .ok (.iload_n 2, 1) := by decide +kernel
theorem dX3_add_24 : decode cX3_add 24 = .ok (.dup2, 1) := by decide +kernel
theorem dX3_add_25 : decode cX3_add 25 = .ok (.laload, 1) := by decide +kernel
theorem dX3_add_26 : decode cX3_add 26 = .ok (.iload_n 1, 1) := by decide +kernel
theorem dX3_add_27 : decode cX3_add 27 = .ok (.invokestatic 19, 3) := by decide +kernel
theorem dX3_add_30 : decode cX3_add 30 = .ok (.lor, 1) := by decide +kernel
theorem dX3_add_31 : decode cX3_add 31 = .ok (.lastore, 1) := by decide +kernel
theorem dX3_add_32 : decode cX3_add 32 = .ok (.aload_n 0, 1) := by decide +kernel
theorem dX3_add_33 : decode cX3_add 33 = .ok (.dup, 1) := by decide +kernel
theorem dX3_add_34 : decode cX3_add 34 = .ok (.getfield 23, 3) := by decide +kernel
theorem dX3_add_37 : decode cX3_add 37 = .ok (.iconst 1, 1) := by decide +kernel
theorem dX3_add_38 : decode cX3_add 38 = .ok (.iadd, 1) := by decide +kernel
theorem dX3_add_39 : decode cX3_add 39 = .ok (.putfield 23, 3) := by decide +kernel
theorem dX3_add_42 : decode cX3_add 42 = .ok (.aload_n 0, 1) := by decide +kernel
theorem dX3_add_43 : decode cX3_add 43 = .ok (.aload_n 0, 1) := by decide +kernel
theorem dX3_add_44 : decode cX3_add 44 = .ok (.getfield 15, 3) := by decide +kernel
theorem dX3_add_47 : decode cX3_add 47 = .ok (.iload_n 1, 1) := by decide +kernel
theorem dX3_add_48 : decode cX3_add 48 = .ok (.invokestatic 26, 3) := by decide +kernel
theorem dX3_add_51 : decode cX3_add 51 = .ok (.putfield 15, 3) := by decide +kernel
theorem dX3_add_54 : decode cX3_add 54 = .ok (.aload_n 0, 1) := by decide +kernel
theorem dX3_add_55 : decode cX3_add 55 = .ok (.aload_n 0, 1) := by decide +kernel
theorem dX3_add_56 : decode cX3_add 56 = .ok (.getfield 32, 3) := by decide +kernel
theorem dX3_add_59 : decode cX3_add 59 = .ok (.iload_n 1, 1) := by decide +kernel
theorem dX3_add_60 : decode cX3_add 60 = .ok (.invokestatic 35, 3) := by decide +kernel
theorem dX3_add_63 : decode cX3_add 63 = .ok (.putfield 32, 3) := by decide +kernel
theorem dX3_add_66 : decode cX3_add 66 = .ok (.return_, 1) := by decide +kernel
theorem dX3_missing_0 : decode cX3_missing 0 = .ok (.aload_n 0, 1) := by decide +kernel
theorem dX3_missing_1 : decode cX3_missing 1 = .ok (.getfield 23, 3) := by decide +kernel
theorem dX3_missing_4 : decode cX3_missing 4 = .ok (.ifCond .ne 7, 3) := by decide +kernel
theorem dX3_missing_7 : decode cX3_missing 7 = .ok (.iconst 0, 1) := by decide +kernel
theorem dX3_missing_8 : decode cX3_missing 8 = .ok (.goto 19, 3) := by decide +kernel
theorem dX3_missing_11 : decode cX3_missing 11 = .ok (.aload_n 0, 1) := by decide +kernel
theorem dX3_missing_12 : decode cX3_missing 12 = .ok (.getfield 32, 3) := by decide +kernel
theorem dX3_missing_15 : decode cX3_missing 15 = .ok (.aload_n 0, 1) := by decide +kernel
theorem dX3_missing_16 : decode cX3_missing 16 = .ok (.getfield 15, 3) := by decide +kernel
theorem dX3_missing_19 : decode cX3_missing 19 = .ok (.isub, 1) := by decide +kernel
theorem dX3_missing_20 : decode cX3_missing 20 = .ok (.iconst 1, 1) := by decide +kernel
theorem dX3_missing_21 : decode cX3_missing 21 = .ok (.iadd, 1) := by decide +kernel
theorem dX3_missing_22 : decode cX3_missing 22 = .ok (.aload_n 0, 1) := by decide +kernel
theorem dX3_missing_23 : decode cX3_missing 23 = .ok (.getfield 23, 3) := by decide +kernel
theorem dX3_missing_26 : decode cX3_missing 26 = .ok (.isub, 1) := by decide +kernel
theorem dX3_missing_27 : decode cX3_missing 27 = .ok (.ireturn, 1) := by decide +kernel
theorem dX3_bitOf_0 : decode cX3_bitOf 0 = .ok (.lconst 1, 1) := by decide +kernel
theorem dX3_bitOf_1 : decode cX3_bitOf 1 = .ok (.iload_n 0, 1) := by decide +kernel
theorem dX3_bitOf_2 : decode cX3_bitOf 2 = .ok (.bipush 64, 2) := by decide +kernel
theorem dX3_bitOf_4 : decode cX3_bitOf 4 = .ok (.irem, 1) := by decide +kernel
theorem dX3_bitOf_5 : decode cX3_bitOf 5 = .ok (.lshl, 1) := by decide +kernel
theorem dX3_bitOf_6 : decode cX3_bitOf 6 = .ok (.lreturn, 1) := by decide +kernel
set_option maxRecDepth 20000 in
theorem ggX4_init_X3_init : GoodIn wsX4_init wsX3_init := goodIn_r _ [18, 19, 2, 3, 20, 21, 22, 37, 38, 39, 40, 41] (by decide +kernel) (by decide +kernel)
set_option maxRecDepth 20000 in
theorem gX4_init_X3_init_n37 : GoodIn wsX4_init (wsX3_init) := ggX4_init_X3_init
set_option maxRecDepth 20000 in
theorem ggX4_init_X1_init : GoodIn wsX4_init wsX1_init := goodIn_r _ [24, 25, 2, 3, 26, 27, 28, 42, 43] (by decide +kernel) (by decide +kernel)
set_option maxRecDepth 20000 in
theorem gX4_init_X1_init_n38 : GoodIn wsX4_init (wsX1_init) := ggX4_init_X1_init
theorem dX4_init_0 : decode cX4_init 0 = .ok (.aload_n 0, 1) := by decide +kernel
theorem dX4_init_1 : decode cX4_init 1 = .ok (.invokespecial 1, 3) := by decide +kernel
theorem dX4_init_4 : decode cX4_init 4 = .ok (.aload_n 0, 1) := by decide +kernel
theorem dX4_init_5 : decode cX4_init 5 = .ok (.iconst 3, 1) := by decide +kernel
theorem dX4_init_6 : decode cX4_init 6 = .ok (.anewarray 9, 3) := by decide +kernel
theorem dX4_init_9 : decode cX4_init 9 = .ok (.putfield 11, 3) := by decide +kernel
theorem dX4_init_12 : decode cX4_init 12 = .ok (.aload_n 0, 1) := by decide +kernel
theorem dX4_init_13 : decode cX4_init 13 = .ok (.bipush 60, 2) := by decide +kernel
theorem dX4_init_15 : decode cX4_init 15 = .ok (.anewarray 15, 3) := by decide +kernel
theorem dX4_init_18 : decode cX4_init 18 = .ok (.putfield 17, 3) := by decide +kernel
theorem dX4_init_21 : decode cX4_init 21 = .ok (.aload_n 0, 1) := by decide +kernel
theorem dX4_init_22 : decode cX4_init 22 = .ok (.iconst 5, 1) := by decide +kernel
theorem dX4_init_23 : decode cX4_init 23 = .ok (.putfield 21, 3) := by decide +kernel
theorem dX4_init_26 : decode cX4_init 26 = .ok (.aload_n 0, 1) := by decide +kernel
theorem dX4_init_27 : decode cX4_init 27 = .ok (.bipush 30, 2) := by decide +kernel
theorem dX4_init_29 : decode cX4_init 29 = .ok (.anewarray 25, 3) := by decide +kernel
theorem dX4_init_32 : decode cX4_init 32 = .ok (.putfield 27, 3) := by decide +kernel
theorem dX4_init_35 : decode cX4_init 35 = .ok (.aload_n 0, 1) := by decide +kernel
theorem dX4_init_36 : decode cX4_init 36 = .ok (.iconst 4, 1) := by decide +kernel
theorem dX4_init_37 : decode cX4_init 37 = .ok (.anewarray 31, 3) := by decide +kernel
theorem dX4_init_40 : decode cX4_init 40 = .ok (.putfield 33, 3) := by decide +kernel
theorem dX4_init_43 : decode cX4_init 43 = .ok (.iconst 0, 1) := by decide +kernel
theorem dX4_init_44 : decode cX4_init 44 = .ok (.istore_n 1, 1) := by decide +kernel
theorem dX4_init_45 : decode cX4_init 45 = .ok (.iload_n 1, 1) := by decide +kernel
theorem dX4_init_46 : decode cX4_init 46 = .ok (.aload_n 0, 1) := by decide +kernel
theorem dX4_init_47 : decode cX4_init 47 = .ok (.getfield 11, 3) := by decide +kernel
theorem dX4_init_50 : decode cX4_init 50 = .ok (.arraylength, 1) := by decide +kernel
theorem dX4_init_51 : decode cX4_init 51 = .ok (.if_icmp .ge 22, 3) := by decide +kernel
theorem dX4_init_54 : decode cX4_init 54 = .ok (.aload_n 0, 1) := by decide +kernel
theorem dX4_init_55 : decode cX4_init 55 = .ok (.getfield 11, 3) := by decide +kernel
theorem dX4_init_58 : decode cX4_init 58 = .ok (.iload_n 1, 1) := by decide +kernel
theorem dX4_init_59 : decode cX4_init 59 = .ok (.new 9, 3) := by decide +kernel
theorem dX4_init_62 : decode cX4_init 62 = .ok (.dup, 1) := by decide +kernel
theorem dX4_init_63 : decode cX4_init 63 = .ok (.invokespecial 37, 3) := by decide +kernel
theorem dX4_init_66 : decode cX4_init 66 = .ok (.aastore, 1) := by decide +kernel
theorem dX4_init_67 : decode cX4_init 67 = .ok (.iinc 1 1, 3) := by decide +kernel
theorem dX4_init_70 : decode cX4_init 70 = .ok (.goto (-25), 3) := by decide +kernel
theorem dX4_init_73 : decode cX4_init 73 = .ok (.iconst 0, 1) := by decide +kernel
theorem dX4_init_74 : decode cX4_init 74 = .ok (.istore_n 1, 1) := by decide +kernel
theorem dX4_init_75 : decode cX4_init 75 = .ok (.iload_n 1, 1) := by decide +kernel
theorem dX4_init_76 : decode cX4_init 76 = .ok (.aload_n 0, 1) := by decide +kernel
theorem dX4_init_77 : decode cX4_init 77 = .ok (.getfield 33, 3) := by decide +kernel
theorem dX4_init_80 : decode cX4_init 80 = .ok (.arraylength, 1) := by decide +kernel
theorem dX4_init_81 : decode cX4_init 81 = .ok (.if_icmp .ge 22, 3) := by decide +kernel
theorem dX4_init_84 : decode cX4_init 84 = .ok (.aload_n 0, 1) := by decide +kernel
theorem dX4_init_85 : decode cX4_init 85 = .ok (.getfield 33, 3) := by decide +kernel
theorem dX4_init_88 : decode cX4_init 88 = .ok (.iload_n 1, 1) := by decide +kernel
theorem dX4_init_89 : decode cX4_init 89 = .ok (.new 31, 3) := by decide +kernel
theorem dX4_init_92 : decode cX4_init 92 = .ok (.dup, 1) := by decide +kernel
theorem dX4_init_93 : decode cX4_init 93 = .ok (.invokespecial 38, 3) := by decide +kernel
theorem dX4_init_96 : decode cX4_init 96 = .ok (.aastore, 1) := by decide +kernel
theorem dX4_init_97 : decode cX4_init 97 = .ok (.iinc 1 1, 3) := by decide +kernel
theorem dX4_init_100 : decode cX4_init 100 = .ok (.goto (-25), 3) := by decide +kernel
theorem dX4_init_103 : decode cX4_init 103 = .ok (.return_, 1) := by decide +kernel
set_option maxRecDepth 20000 in
theorem ggX4_setBound_X4_within : GoodIn wsX4_setBound wsX4_within := goodIn_r _ [7] (by decide +kernel) (by decide +kernel)
set_option maxRecDepth 20000 in
theorem gX4_setBound_X4_within : GoodIn wsX4_setBound (va_wsS RX4 39 yX4_within wsX4_within) := goodIn_app (goodIn_of _ (by decide +kernel)) ggX4_setBound_X4_within
theorem dX4_setBound_0 : decode cX4_setBound 0 = .ok (.iload_n 1, 1) := by decide +kernel
theorem dX4_setBound_1 : decode cX4_setBound 1 = .ok (.iconst 0, 1) := by decide +kernel
theorem dX4_setBound_2 : decode cX4_setBound 2 = .ok (.bipush 100, 2) := by decide +kernel
theorem dX4_setBound_4 : decode cX4_setBound 4 = .ok (.invokestatic 39, 3) := by decide +kernel
theorem dX4_setBound_7 : decode cX4_setBound 7 = .ok (.ifCond .ne 13, 3) := by decide +kernel
theorem dX4_setBound_10 : decode cX4_setBound 10 = .ok (.new 43, 3) := by decide +kernel
theorem dX4_setBound_13 : decode cX4_setBound 13 = .ok (.dup, 1) := by decide +kernel
theorem dX4_setBound_14 : decode cX4_setBound 14 = .ok (.ldc 45, 2) := by decide +kernel
theorem dX4_setBound_16 : decode cX4_setBound 16 = .ok (.invokespecial 47, 3) := by decide +kernel
theorem dX4_setBound_19 : decode cX4_setBound 19 = .ok (.athrow, 1) := by decide +kernel
theorem dX4_setBound_20 : decode cX4_setBound 20 = .ok (.aload_n 0, 1) := by decide +kernel
theorem dX4_setBound_21 : decode cX4_setBound 21 = .ok (.getfield 21, 3) := by decide +kernel
theorem dX4_setBound_24 : decode cX4_setBound 24 = .ok (.istore_n 2, 1) := by decide +kernel
theorem dX4_setBound_25 : decode cX4_setBound 25 = .ok (.aload_n 0, 1) := by decide +kernel
theorem dX4_setBound_26 : decode cX4_setBound 26 = .ok (.iload_n 1, 1) := by decide +kernel
theorem dX4_setBound_27 : decode cX4_setBound 27 = .ok (.putfield 21, 3) := by decide +kernel
theorem dX4_setBound_30 : decode cX4_setBound 30 = .ok (.iload_n 2, 1) := by decide +kernel
theorem dX4_setBound_31 : decode cX4_setBound 31 = .ok (.ireturn, 1) := by decide +kernel
set_option maxRecDepth 20000 in
theorem ggX4_record_X4_sourceAt : GoodIn wsX4_record wsX4_sourceAt := goodIn_r _ [12, 13, 101, 102, 103, 104, 105, 106, 107, 108] (by decide +kernel) (by decide +kernel)
set_option maxRecDepth 20000 in
theorem gX4_record_X4_sourceAt : GoodIn wsX4_record (wsV RX4 50 RX4 yX4_sourceAt wsX4_sourceAt) := goodIn_app (goodIn_of _ (by decide +kernel)) ggX4_record_X4_sourceAt
set_option maxRecDepth 20000 in
theorem ggX4_record_X4_within : GoodIn wsX4_record wsX4_within := goodIn_r _ [16] (by decide +kernel) (by decide +kernel)
set_option maxRecDepth 20000 in
theorem gX4_record_X4_within : GoodIn wsX4_record (va_wsS RX4 39 yX4_within wsX4_within) := goodIn_app (goodIn_of _ (by decide +kernel)) ggX4_record_X4_within
set_option maxRecDepth 20000 in
theorem ggX4_record_X4_isNumber : GoodIn wsX4_record wsX4_isNumber := goodIn_r _ [19, 20, 14, 15, 11, 16] (by decide +kernel) (by decide +kernel)
set_option maxRecDepth 20000 in
theorem gX4_record_X4_isNumber : GoodIn wsX4_record (va_wsS RX4 54 yX4_isNumber wsX4_isNumber) := goodIn_app (goodIn_of _ (by decide +kernel)) ggX4_record_X4_isNumber
set_option maxRecDepth 20000 in
theorem ggX4_record_X3_has : GoodIn wsX4_record wsX3_has := goodIn_r _ [25, 26, 27, 28, 24, 29, 88, 89, 90, 91, 92] (by decide +kernel) (by decide +kernel)
set_option maxRecDepth 20000 in
theorem gX4_record_X3_has : GoodIn wsX4_record (wsV RX4 61 RX3 yX3_has wsX3_has) := goodIn_app (goodIn_of _ (by decide +kernel)) ggX4_record_X3_has
set_option maxRecDepth 20000 in
theorem ggX4_record_X4_callJoinedBy : GoodIn wsX4_record wsX4_callJoinedBy := goodIn_r _ [33, 34, 35, 36, 37, 38, 39, 40, 41, 42, 43, 44, 45, 46, 47, 48, 49, 50, 51, 52, 101, 102, 103, 104, 105, 106, 107, 108, 93, 94, 95, 96, 97, 98, 99, 100] (by decide +kernel) (by decide +kernel)
set_option maxRecDepth 20000 in
theorem gX4_record_X4_callJoinedBy : GoodIn wsX4_record (wsV RX4 67 RX4 yX4_callJoinedBy wsX4_callJoinedBy) := goodIn_app (goodIn_of _ (by decide +kernel)) ggX4_record_X4_callJoinedBy
set_option maxRecDepth 20000 in
theorem ggX4_record_X4_newCall : GoodIn wsX4_record wsX4_newCall := goodIn_r _ [56, 57, 34, 58, 59, 40, 60, 61, 62, 63, 64, 65, 66, 67, 68, 47, 52, 101, 102, 103, 104, 105, 106, 107, 108, 93, 94, 95, 96, 97, 98, 99, 100] (by decide +kernel) (by decide +kernel)
set_option maxRecDepth 20000 in
theorem gX4_record_X4_newCall : GoodIn wsX4_record (wsV RX4 71 RX4 yX4_newCall wsX4_newCall) := goodIn_app (goodIn_of _ (by decide +kernel)) ggX4_record_X4_newCall
set_option maxRecDepth 20000 in
theorem ggX4_record_X3_add : GoodIn wsX4_record wsX3_add := goodIn_r _ [72, 26, 73, 74, 75, 76, 50, 77, 78, 79, 80, 81, 27, 28, 24, 29, 88, 89, 90, 91, 92] (by decide +kernel) (by decide +kernel)
set_option maxRecDepth 20000 in
theorem gX4_record_X3_add : GoodIn wsX4_record (wsV RX4 80 RX3 yX3_add wsX3_add) := goodIn_app (goodIn_of _ (by decide +kernel)) ggX4_record_X3_add
set_option maxRecDepth 20000 in
theorem ggX4_record_X0_addLeg : GoodIn wsX4_record wsX0_addLeg := goodIn_r _ [85, 42, 86, 87, 80, 50, 81, 93, 94, 95, 96, 97, 98, 99, 100] (by decide +kernel) (by decide +kernel)
set_option maxRecDepth 20000 in
theorem gX4_record_X0_addLeg : GoodIn wsX4_record (wsV RX4 84 RX0 yX0_addLeg wsX0_addLeg) := goodIn_app (goodIn_of _ (by decide +kernel)) ggX4_record_X0_addLeg
theorem dX4_record_0 : decode cX4_record 0 = .ok (.aload_n 0, 1) := by decide +kernel
theorem dX4_record_1 : decode cX4_record 1 = .ok (.iload_n 1, 1) := by decide +kernel
theorem dX4_record_2 : decode cX4_record 2 = .ok (.invokevirtual 50, 3) := by decide +kernel
theorem dX4_record_5 : decode cX4_record 5 = .ok (.astore 6, 2) := by decide +kernel
theorem dX4_record_7 : decode cX4_record 7 = .ok (.aload 6, 2) := by decide +kernel
theorem dX4_record_9 : decode cX4_record 9 = .ok (.ifnull 44, 3) := by decide +kernel
theorem dX4_record_12 : decode cX4_record 12 = .ok (.iload_n 2, 1) := by decide +kernel
theorem dX4_record_13 : decode cX4_record 13 = .ok (.iconst 0, 1) := by decide +kernel
theorem dX4_record_14 : decode cX4_record 14 = .ok (.sipush 9999, 3) := by decide +kernel
theorem dX4_record_17 : decode cX4_record 17 = .ok (.invokestatic 39, 3) := by decide +kernel
theorem dX4_record_20 : decode cX4_record 20 = .ok (.ifCond .eq 33, 3) := by decide +kernel
theorem dX4_record_23 : decode cX4_record 23 = .ok (.iload_n 3, 1) := by decide +kernel
theorem dX4_record_24 : decode cX4_record 24 = .ok (.invokestatic 54, 3) := by decide +kernel
theorem dX4_record_27 : decode cX4_record 27 = .ok (.ifCond .eq 26, 3) := by decide +kernel
theorem dX4_record_30 : decode cX4_record 30 = .ok (.iload 4, 2) := by decide +kernel
theorem dX4_record_32 : decode cX4_record 32 = .ok (.iconst 0, 1) := by decide +kernel
theorem dX4_record_33 : decode cX4_record 33 = .ok (.ldc 58, 2) := by decide +kernel
theorem dX4_record_35 : decode cX4_record 35 = .ok (.invokestatic 39, 3) := by decide +kernel
theorem dX4_record_38 : decode cX4_record 38 = .ok (.ifCond .eq 15, 3) := by decide +kernel
theorem dX4_record_41 : decode cX4_record 41 = .ok (.iload 5, 2) := by decide +kernel
theorem dX4_record_43 : decode cX4_record 43 = .ok (.iconst 0, 1) := by decide +kernel
theorem dX4_record_44 : decode cX4_record 44 = .ok (.sipush 10000, 3) := by decide +kernel
theorem dX4_record_47 : decode cX4_record 47 = .ok (.invokestatic 39, 3) := by decide +kernel
theorem dX4_record_50 : decode cX4_record 50 = .ok (.ifCond .ne 13, 3) := by decide +kernel
theorem dX4_record_53 : decode cX4_record 53 = .ok (.new 43, 3) := by decide +kernel
theorem dX4_record_56 : decode cX4_record 56 = .ok (.dup, 1) := by decide +kernel
theorem dX4_record_57 : decode cX4_record 57 = .ok (.ldc 59, 2) := by decide +kernel
theorem dX4_record_59 : decode cX4_record 59 = .ok (.invokespecial 47, 3) := by decide +kernel
theorem dX4_record_62 : decode cX4_record 62 = .ok (.athrow, 1) := by decide +kernel
theorem dX4_record_63 : decode cX4_record 63 = .ok (.aload 6, 2) := by decide +kernel
theorem dX4_record_65 : decode cX4_record 65 = .ok (.iload_n 2, 1) := by decide +kernel
theorem dX4_record_66 : decode cX4_record 66 = .ok (.invokevirtual 61, 3) := by decide +kernel
theorem dX4_record_69 : decode cX4_record 69 = .ok (.ifCond .eq 16, 3) := by decide +kernel
theorem dX4_record_72 : decode cX4_record 72 = .ok (.aload 6, 2) := by decide +kernel
theorem dX4_record_74 : decode cX4_record 74 = .ok (.dup, 1) := by decide +kernel
theorem dX4_record_75 : decode cX4_record 75 = .ok (.getfield 64, 3) := by decide +kernel
theorem dX4_record_78 : decode cX4_record 78 = .ok (.iconst 1, 1) := by decide +kernel
theorem dX4_record_79 : decode cX4_record 79 = .ok (.iadd, 1) := by decide +kernel
theorem dX4_record_80 : decode cX4_record 80 = .ok (.putfield 64, 3) := by decide +kernel
theorem dX4_record_83 : decode cX4_record 83 = .ok (.iconst (-1), 1) := by decide +kernel
theorem dX4_record_84 : decode cX4_record 84 = .ok (.ireturn, 1) := by decide +kernel
theorem dX4_record_85 : decode cX4_record 85 = .ok (.aload_n 0, 1) := by decide +kernel
theorem dX4_record_86 : decode cX4_record 86 = .ok (.iload_n 1, 1) := by decide +kernel
theorem dX4_record_87 : decode cX4_record 87 = .ok (.iload_n 3, 1) := by decide +kernel
theorem dX4_record_88 : decode cX4_record 88 = .ok (.iload 4, 2) := by decide +kernel
theorem dX4_record_90 : decode cX4_record 90 = .ok (.iload 5, 2) := by decide +kernel
theorem dX4_record_92 : decode cX4_record 92 = .ok (.invokevirtual 67, 3) := by decide +kernel
theorem dX4_record_95 : decode cX4_record 95 = .ok (.astore 7, 2) := by decide +kernel
theorem dX4_record_97 : decode cX4_record 97 = .ok (.aload 7, 2) := by decide +kernel
theorem dX4_record_99 : decode cX4_record 99 = .ok (.ifnonnull 14, 3) := by decide +kernel
theorem dX4_record_102 : decode cX4_record 102 = .ok (.aload_n 0, 1) := by decide +kernel
theorem dX4_record_103 : decode cX4_record 103 = .ok (.iload_n 3, 1) := by decide +kernel
theorem dX4_record_104 : decode cX4_record 104 = .ok (.iload 4, 2) := by decide +kernel
theorem dX4_record_106 : decode cX4_record 106 = .ok (.iload 5, 2) := by decide +kernel
theorem dX4_record_108 : decode cX4_record 108 = .ok (.invokevirtual 71, 3) := by decide +kernel
theorem dX4_record_111 : decode cX4_record 111 = .ok (.astore 7, 2) := by decide +kernel
theorem dX4_record_113 : decode cX4_record 113 = .ok (.aload 7, 2) := by decide +kernel
theorem dX4_record_115 : decode cX4_record 115 = .ok (.ifnonnull 13, 3) := by decide +kernel
theorem dX4_record_118 : decode cX4_record 118 = .ok (.new 75, 3) := by decide +kernel
theorem dX4_record_121 : decode cX4_record 121 = .ok (.dup, 1) := by decide +kernel
theorem dX4_record_122 : decode cX4_record 122 = .ok (.ldc 77, 2) := by decide +kernel
theorem dX4_record_124 : decode cX4_record 124 = .ok (.invokespecial 79, 3) := by decide +kernel
theorem dX4_record_127 : decode cX4_record 127 = .ok (.athrow, 1) := by decide +kernel
theorem dX4_record_128 : decode cX4_record 128 = .ok (.aload 6, 2) := by decide +kernel
theorem dX4_record_130 : decode cX4_record 130 = .ok (.iload_n 2, 1) := by decide +kernel
theorem dX4_record_131 : decode cX4_record 131 = .ok (.invokevirtual 80, 3) := by decide +kernel
theorem dX4_record_134 : decode cX4_record 134 = .ok (.aload 7, 2) := by decide +kernel
theorem dX4_record_136 : decode cX4_record 136 = .ok (.iload_n 1, 1) := by decide +kernel
theorem dX4_record_137 : decode cX4_record 137 = .ok (.iload 5, 2) := by decide +kernel
theorem dX4_record_139 : decode cX4_record 139 = .ok (.invokevirtual 84, 3) := by decide +kernel
theorem dX4_record_142 : decode cX4_record 142 = .ok (.aload 7, 2) := by decide +kernel
theorem dX4_record_144 : decode cX4_record 144 = .ok (.getfield 88, 3) := by decide +kernel
theorem dX4_record_147 : decode cX4_record 147 = .ok (.ireturn, 1) := by decide +kernel
set_option maxRecDepth 20000 in
theorem ggX4_gaps_X4_sourceAt : GoodIn wsX4_gaps wsX4_sourceAt := goodIn_r _ [7, 8, 17, 18, 19, 20, 21, 22, 23, 24] (by decide +kernel) (by decide +kernel)
set_option maxRecDepth 20000 in
theorem gX4_gaps_X4_sourceAt : GoodIn wsX4_gaps (wsV RX4 50 RX4 yX4_sourceAt wsX4_sourceAt) := goodIn_app (goodIn_of _ (by decide +kernel)) ggX4_gaps_X4_sourceAt
set_option maxRecDepth 20000 in
theorem ggX4_gaps_X3_missing : GoodIn wsX4_gaps wsX3_missing := goodIn_r _ [13, 14, 15, 16, 25, 26, 27, 28, 29] (by decide +kernel) (by decide +kernel)
set_option maxRecDepth 20000 in
theorem gX4_gaps_X3_missing : GoodIn wsX4_gaps (wsV RX4 93 RX3 yX3_missing wsX3_missing) := goodIn_app (goodIn_of _ (by decide +kernel)) ggX4_gaps_X3_missing
theorem dX4_gaps_0 : decode cX4_gaps 0 = .ok (.aload_n 0, 1) := by decide +kernel
theorem dX4_gaps_1 : decode cX4_gaps 1 = .ok (.iload_n 1, 1) := by decide +kernel
theorem dX4_gaps_2 : decode cX4_gaps 2 = .ok (.invokevirtual 50, 3) := by decide +kernel
theorem dX4_gaps_5 : decode cX4_gaps 5 = .ok (.astore_n 2, 1) := by decide +kernel
theorem dX4_gaps_6 : decode cX4_gaps 6 = .ok (.aload_n 2, 1) := by decide +kernel
theorem dX4_gaps_7 : decode cX4_gaps 7 = .ok (.ifnonnull 13, 3) := by decide +kernel
theorem dX4_gaps_10 : decode cX4_gaps 10 = .ok (.new 43, 3) := by decide +kernel
theorem dX4_gaps_13 : decode cX4_gaps 13 = .ok (.dup, 1) := by decide +kernel
theorem dX4_gaps_14 : decode cX4_gaps 14 = .ok (.ldc 91, 2) := by decide +kernel
theorem dX4_gaps_16 : decode cX4_gaps 16 = .ok (.invokespecial 47, 3) := by decide +kernel
theorem dX4_gaps_19 : decode cX4_gaps 19 = .ok (.athrow, 1) := by decide +kernel
theorem dX4_gaps_20 : decode cX4_gaps 20 = .ok (.aload_n 2, 1) := by decide +kernel
theorem dX4_gaps_21 : decode cX4_gaps 21 = .ok (.invokevirtual 93, 3) := by decide +kernel
theorem dX4_gaps_24 : decode cX4_gaps 24 = .ok (.ireturn, 1) := by decide +kernel
set_option maxRecDepth 20000 in
theorem ggX4_doubles_X4_sourceAt : GoodIn wsX4_doubles wsX4_sourceAt := goodIn_r _ [8, 9, 15, 16, 17, 18, 19, 20, 21, 22] (by decide +kernel) (by decide +kernel)
set_option maxRecDepth 20000 in
theorem gX4_doubles_X4_sourceAt : GoodIn wsX4_doubles (wsV RX4 50 RX4 yX4_sourceAt wsX4_sourceAt) := goodIn_app (goodIn_of _ (by decide +kernel)) ggX4_doubles_X4_sourceAt
theorem dX4_doubles_0 : decode cX4_doubles 0 = .ok (.aload_n 0, 1) := by decide +kernel
theorem dX4_doubles_1 : decode cX4_doubles 1 = .ok (.iload_n 1, 1) := by decide +kernel
theorem dX4_doubles_2 : decode cX4_doubles 2 = .ok (.invokevirtual 50, 3) := by decide +kernel
theorem dX4_doubles_5 : decode cX4_doubles 5 = .ok (.astore_n 2, 1) := by decide +kernel
theorem dX4_doubles_6 : decode cX4_doubles 6 = .ok (.aload_n 2, 1) := by decide +kernel
theorem dX4_doubles_7 : decode cX4_doubles 7 = .ok (.ifnonnull 13, 3) := by decide +kernel
theorem dX4_doubles_10 : decode cX4_doubles 10 = .ok (.new 43, 3) := by decide +kernel
theorem dX4_doubles_13 : decode cX4_doubles 13 = .ok (.dup, 1) := by decide +kernel
theorem dX4_doubles_14 : decode cX4_doubles 14 = .ok (.ldc 91, 2) := by decide +kernel
theorem dX4_doubles_16 : decode cX4_doubles 16 = .ok (.invokespecial 47, 3) := by decide +kernel
theorem dX4_doubles_19 : decode cX4_doubles 19 = .ok (.athrow, 1) := by decide +kernel
theorem dX4_doubles_20 : decode cX4_doubles 20 = .ok (.aload_n 2, 1) := by decide +kernel
theorem dX4_doubles_21 : decode cX4_doubles 21 = .ok (.getfield 64, 3) := by decide +kernel
theorem dX4_doubles_24 : decode cX4_doubles 24 = .ok (.ireturn, 1) := by decide +kernel
theorem dX4_calls_0 : decode cX4_calls 0 = .ok (.aload_n 0, 1) := by decide +kernel
theorem dX4_calls_1 : decode cX4_calls 1 = .ok (.getfield 97, 3) := by decide +kernel
theorem dX4_calls_4 : decode cX4_calls 4 = .ok (.ireturn, 1) := by decide +kernel
set_option maxRecDepth 20000 in
theorem ggX4_legs_X4_callAt : GoodIn wsX4_legs wsX4_callAt := goodIn_r _ [8, 9, 18, 19, 20, 21, 22, 23, 24, 25] (by decide +kernel) (by decide +kernel)
set_option maxRecDepth 20000 in
theorem gX4_legs_X4_callAt : GoodIn wsX4_legs (wsV RX4 100 RX4 yX4_callAt wsX4_callAt) := goodIn_app (goodIn_of _ (by decide +kernel)) ggX4_legs_X4_callAt
theorem dX4_legs_0 : decode cX4_legs 0 = .ok (.aload_n 0, 1) := by decide +kernel
theorem dX4_legs_1 : decode cX4_legs 1 = .ok (.iload_n 1, 1) := by decide +kernel
theorem dX4_legs_2 : decode cX4_legs 2 = .ok (.invokevirtual 100, 3) := by decide +kernel
theorem dX4_legs_5 : decode cX4_legs 5 = .ok (.astore_n 2, 1) := by decide +kernel
theorem dX4_legs_6 : decode cX4_legs 6 = .ok (.aload_n 2, 1) := by decide +kernel
theorem dX4_legs_7 : decode cX4_legs 7 = .ok (.ifnonnull 13, 3) := by decide +kernel
theorem dX4_legs_10 : decode cX4_legs 10 = .ok (.new 104, 3) := by decide +kernel
theorem dX4_legs_13 : decode cX4_legs 13 = .ok (.dup, 1) := by decide +kernel
theorem dX4_legs_14 : decode cX4_legs 14 = .ok (.ldc 106, 2) := by decide +kernel
theorem dX4_legs_16 : decode cX4_legs 16 = .ok (.invokespecial 108, 3) := by decide +kernel
theorem dX4_legs_19 : decode cX4_legs 19 = .ok (.athrow, 1) := by decide +kernel
theorem dX4_legs_20 : decode cX4_legs 20 = .ok (.aload_n 2, 1) := by decide +kernel
theorem dX4_legs_21 : decode cX4_legs 21 = .ok (.getfield 109, 3) := by decide +kernel
theorem dX4_legs_24 : decode cX4_legs 24 = .ok (.ireturn, 1) := by decide +kernel
set_option maxRecDepth 20000 in
theorem ggX4_length_X4_callAt : GoodIn wsX4_length wsX4_callAt := goodIn_r _ [8, 9, 18, 19, 20, 21, 22, 23, 24, 25] (by decide +kernel) (by decide +kernel)
set_option maxRecDepth 20000 in
theorem gX4_length_X4_callAt : GoodIn wsX4_length (wsV RX4 100 RX4 yX4_callAt wsX4_callAt) := goodIn_app (goodIn_of _ (by decide +kernel)) ggX4_length_X4_callAt
theorem dX4_length_0 : decode cX4_length 0 = .ok (.aload_n 0, 1) := by decide +kernel
theorem dX4_length_1 : decode cX4_length 1 = .ok (.iload_n 1, 1) := by decide +kernel
theorem dX4_length_2 : decode cX4_length 2 = .ok (.invokevirtual 100, 3) := by decide +kernel
theorem dX4_length_5 : decode cX4_length 5 = .ok (.astore_n 2, 1) := by decide +kernel
theorem dX4_length_6 : decode cX4_length 6 = .ok (.aload_n 2, 1) := by decide +kernel
theorem dX4_length_7 : decode cX4_length 7 = .ok (.ifnonnull 13, 3) := by decide +kernel
theorem dX4_length_10 : decode cX4_length 10 = .ok (.new 104, 3) := by decide +kernel
theorem dX4_length_13 : decode cX4_length 13 = .ok (.dup, 1) := by decide +kernel
theorem dX4_length_14 : decode cX4_length 14 = .ok (.ldc 106, 2) := by decide +kernel
theorem dX4_length_16 : decode cX4_length 16 = .ok (.invokespecial 108, 3) := by decide +kernel
theorem dX4_length_19 : decode cX4_length 19 = .ok (.athrow, 1) := by decide +kernel
theorem dX4_length_20 : decode cX4_length 20 = .ok (.aload_n 2, 1) := by decide +kernel
theorem dX4_length_21 : decode cX4_length 21 = .ok (.getfield 112, 3) := by decide +kernel
theorem dX4_length_24 : decode cX4_length 24 = .ok (.ireturn, 1) := by decide +kernel
set_option maxRecDepth 20000 in
theorem ggX4_addRate_X4_isPrefix : GoodIn wsX4_addRate wsX4_isPrefix := goodIn_r _ [13, 14, 15, 16, 12, 17] (by decide +kernel) (by decide +kernel)
set_option maxRecDepth 20000 in
theorem gX4_addRate_X4_isPrefix : GoodIn wsX4_addRate (va_wsS RX4 115 yX4_isPrefix wsX4_isPrefix) := goodIn_app (goodIn_of _ (by decide +kernel)) ggX4_addRate_X4_isPrefix
set_option maxRecDepth 20000 in
theorem ggX4_addRate_X4_isDay : GoodIn wsX4_addRate wsX4_isDay := goodIn_r _ [20, 15, 16, 12, 17] (by decide +kernel) (by decide +kernel)
set_option maxRecDepth 20000 in
theorem gX4_addRate_X4_isDay : GoodIn wsX4_addRate (va_wsS RX4 118 yX4_isDay wsX4_isDay) := goodIn_app (goodIn_of _ (by decide +kernel)) ggX4_addRate_X4_isDay
set_option maxRecDepth 20000 in
theorem ggX4_addRate_X4_within : GoodIn wsX4_addRate wsX4_within := goodIn_r _ [17] (by decide +kernel) (by decide +kernel)
set_option maxRecDepth 20000 in
theorem gX4_addRate_X4_within : GoodIn wsX4_addRate (va_wsS RX4 39 yX4_within wsX4_within) := goodIn_app (goodIn_of _ (by decide +kernel)) ggX4_addRate_X4_within
set_option maxRecDepth 20000 in
theorem ggX4_addRate_X2_init : GoodIn wsX4_addRate wsX2_init := goodIn_r _ [23, 24, 25, 26, 27, 28, 29, 30, 31, 32, 33, 42, 43, 44, 45, 46, 47, 48] (by decide +kernel) (by decide +kernel)
set_option maxRecDepth 20000 in
theorem gX4_addRate_X2_init : GoodIn wsX4_addRate (wsX2_init) := ggX4_addRate_X2_init
theorem dX4_addRate_0 : decode cX4_addRate 0 = .ok (.iload_n 1, 1) := by decide +kernel
theorem dX4_addRate_1 : decode cX4_addRate 1 = .ok (.invokestatic 115, 3) := by decide +kernel
theorem dX4_addRate_4 : decode cX4_addRate 4 = .ok (.ifCond .eq 55, 3) := by decide +kernel
theorem dX4_addRate_7 : decode cX4_addRate 7 = .ok (.iload_n 2, 1) := by decide +kernel
theorem dX4_addRate_8 : decode cX4_addRate 8 = .ok (.invokestatic 118, 3) := by decide +kernel
theorem dX4_addRate_11 : decode cX4_addRate 11 = .ok (.ifCond .eq 48, 3) := by decide +kernel
theorem dX4_addRate_14 : decode cX4_addRate 14 = .ok (.iload_n 3, 1) := by decide +kernel
theorem dX4_addRate_15 : decode cX4_addRate 15 = .ok (.iconst 0, 1) := by decide +kernel
theorem dX4_addRate_16 : decode cX4_addRate 16 = .ok (.sipush 10000, 3) := by decide +kernel
theorem dX4_addRate_19 : decode cX4_addRate 19 = .ok (.invokestatic 39, 3) := by decide +kernel
theorem dX4_addRate_22 : decode cX4_addRate 22 = .ok (.ifCond .eq 37, 3) := by decide +kernel
theorem dX4_addRate_25 : decode cX4_addRate 25 = .ok (.iload 4, 2) := by decide +kernel
theorem dX4_addRate_27 : decode cX4_addRate 27 = .ok (.iconst 1, 1) := by decide +kernel
theorem dX4_addRate_28 : decode cX4_addRate 28 = .ok (.bipush 60, 2) := by decide +kernel
theorem dX4_addRate_30 : decode cX4_addRate 30 = .ok (.invokestatic 39, 3) := by decide +kernel
theorem dX4_addRate_33 : decode cX4_addRate 33 = .ok (.ifCond .eq 26, 3) := by decide +kernel
theorem dX4_addRate_36 : decode cX4_addRate 36 = .ok (.iload 5, 2) := by decide +kernel
theorem dX4_addRate_38 : decode cX4_addRate 38 = .ok (.iconst 0, 1) := by decide +kernel
theorem dX4_addRate_39 : decode cX4_addRate 39 = .ok (.bipush 120, 2) := by decide +kernel
theorem dX4_addRate_41 : decode cX4_addRate 41 = .ok (.invokestatic 39, 3) := by decide +kernel
theorem dX4_addRate_44 : decode cX4_addRate 44 = .ok (.ifCond .eq 15, 3) := by decide +kernel
theorem dX4_addRate_47 : decode cX4_addRate 47 = .ok (.iload 6, 2) := by decide +kernel
theorem dX4_addRate_49 : decode cX4_addRate 49 = .ok (.iconst 0, 1) := by decide +kernel
theorem dX4_addRate_50 : decode cX4_addRate 50 = .ok (.sipush 1000, 3) := by decide +kernel
theorem dX4_addRate_53 : decode cX4_addRate 53 = .ok (.invokestatic 39, 3) := by decide +kernel
theorem dX4_addRate_56 : decode cX4_addRate 56 = .ok (.ifCond .ne 13, 3) := by decide +kernel
theorem dX4_addRate_59 : decode cX4_addRate 59 = .ok (.new 43, 3) := by decide +kernel
theorem dX4_addRate_62 : decode cX4_addRate 62 = .ok (.dup, 1) := by decide +kernel
theorem dX4_addRate_63 : decode cX4_addRate 63 = .ok (.ldc 121, 2) := by decide +kernel
theorem dX4_addRate_65 : decode cX4_addRate 65 = .ok (.invokespecial 47, 3) := by decide +kernel
theorem dX4_addRate_68 : decode cX4_addRate 68 = .ok (.athrow, 1) := by decide +kernel
theorem dX4_addRate_69 : decode cX4_addRate 69 = .ok (.aload_n 0, 1) := by decide +kernel
theorem dX4_addRate_70 : decode cX4_addRate 70 = .ok (.getfield 123, 3) := by decide +kernel
theorem dX4_addRate_73 : decode cX4_addRate 73 = .ok (.istore 7, 2) := by decide +kernel
theorem dX4_addRate_75 : decode cX4_addRate 75 = .ok (.iload 7, 2) := by decide +kernel
theorem dX4_addRate_77 : decode cX4_addRate 77 = .ok (.aload_n 0, 1) := by decide +kernel
theorem dX4_addRate_78 : decode cX4_addRate 78 = .ok (.getfield 27, 3) := by decide +kernel
theorem dX4_addRate_81 : decode cX4_addRate 81 = .ok (.arraylength, 1) := by decide +kernel
theorem dX4_addRate_82 : decode cX4_addRate 82 = .ok (.if_icmp .lt 13, 3) := by decide +kernel
theorem dX4_addRate_85 : decode cX4_addRate 85 = .ok (.new 75, 3) := by decide +kernel
theorem dX4_addRate_88 : decode cX4_addRate 88 = .ok (.dup, 1) := by decide +kernel
theorem dX4_addRate_89 : decode cX4_addRate 89 = .ok (.ldc 126, 2) := by decide +kernel
theorem dX4_addRate_91 : decode cX4_addRate 91 = .ok (.invokespecial 79, 3) := by decide +kernel
theorem dX4_addRate_94 : decode cX4_addRate 94 = .ok (.athrow, 1) := by decide +kernel
theorem dX4_addRate_95 : decode cX4_addRate 95 = .ok (.aload_n 0, 1) := by decide +kernel
theorem dX4_addRate_96 : decode cX4_addRate 96 = .ok (.getfield 27, 3) := by decide +kernel
theorem dX4_addRate_99 : decode cX4_addRate 99 = .ok (.iload 7, 2) := by decide +kernel
theorem dX4_addRate_101 : decode cX4_addRate 101 = .ok (.new 25, 3) := by decide +kernel
theorem dX4_addRate_104 : decode cX4_addRate 104 = .ok (.dup, 1) := by decide +kernel
theorem dX4_addRate_105 : decode cX4_addRate 105 = .ok (.iload 7, 2) := by decide +kernel
theorem dX4_addRate_107 : decode cX4_addRate 107 = .ok (.iload_n 1, 1) := by decide +kernel
theorem dX4_addRate_108 : decode cX4_addRate 108 = .ok (.iload_n 2, 1) := by decide +kernel
theorem dX4_addRate_109 : decode cX4_addRate 109 = .ok (.iload_n 3, 1) := by decide +kernel
theorem dX4_addRate_110 : decode cX4_addRate 110 = .ok (.iload 4, 2) := by decide +kernel
theorem dX4_addRate_112 : decode cX4_addRate 112 = .ok (.iload 5, 2) := by decide +kernel
theorem dX4_addRate_114 : decode cX4_addRate 114 = .ok (.iload 6, 2) := by decide +kernel
theorem dX4_addRate_116 : decode cX4_addRate 116 = .ok (.invokespecial 128, 3) := by decide +kernel
theorem dX4_addRate_119 : decode cX4_addRate 119 = .ok (.aastore, 1) := by decide +kernel
theorem dX4_addRate_120 : decode cX4_addRate 120 = .ok (.aload_n 0, 1) := by decide +kernel
theorem dX4_addRate_121 : decode cX4_addRate 121 = .ok (.dup, 1) := by decide +kernel
theorem dX4_addRate_122 : decode cX4_addRate 122 = .ok (.getfield 123, 3) := by decide +kernel
theorem dX4_addRate_125 : decode cX4_addRate 125 = .ok (.iconst 1, 1) := by decide +kernel
theorem dX4_addRate_126 : decode cX4_addRate 126 = .ok (.iadd, 1) := by decide +kernel
theorem dX4_addRate_127 : decode cX4_addRate 127 = .ok (.putfield 123, 3) := by decide +kernel
theorem dX4_addRate_130 : decode cX4_addRate 130 = .ok (.iload 7, 2) := by decide +kernel
theorem dX4_addRate_132 : decode cX4_addRate 132 = .ok (.ireturn, 1) := by decide +kernel
set_option maxRecDepth 20000 in
theorem ggX4_rateFor_X4_isNumber : GoodIn wsX4_rateFor wsX4_isNumber := goodIn_r _ [9, 10, 11, 12, 8, 13] (by decide +kernel) (by decide +kernel)
set_option maxRecDepth 20000 in
theorem gX4_rateFor_X4_isNumber : GoodIn wsX4_rateFor (va_wsS RX4 54 yX4_isNumber wsX4_isNumber) := goodIn_app (goodIn_of _ (by decide +kernel)) ggX4_rateFor_X4_isNumber
set_option maxRecDepth 20000 in
theorem ggX4_rateFor_X4_isDay : GoodIn wsX4_rateFor wsX4_isDay := goodIn_r _ [16, 11, 12, 8, 13] (by decide +kernel) (by decide +kernel)
set_option maxRecDepth 20000 in
theorem gX4_rateFor_X4_isDay : GoodIn wsX4_rateFor (va_wsS RX4 118 yX4_isDay wsX4_isDay) := goodIn_app (goodIn_of _ (by decide +kernel)) ggX4_rateFor_X4_isDay
set_option maxRecDepth 20000 in
theorem ggX4_rateFor_X4_rateInForce : GoodIn wsX4_rateFor wsX4_rateInForce := goodIn_r _ [20, 21, 22, 23, 24, 25, 8, 26, 27, 28, 29, 30, 31, 32, 33, 34, 42, 43, 44, 45, 46, 47, 48, 49, 35, 36, 37, 38, 39, 40, 41] (by decide +kernel) (by decide +kernel)
set_option maxRecDepth 20000 in
theorem gX4_rateFor_X4_rateInForce : GoodIn wsX4_rateFor (wsV RX4 133 RX4 yX4_rateInForce wsX4_rateInForce) := goodIn_app (goodIn_of _ (by decide +kernel)) ggX4_rateFor_X4_rateInForce
theorem dX4_rateFor_0 : decode cX4_rateFor 0 = .ok (.iload_n 1, 1) := by decide +kernel
theorem dX4_rateFor_1 : decode cX4_rateFor 1 = .ok (.invokestatic 54, 3) := by decide +kernel
theorem dX4_rateFor_4 : decode cX4_rateFor 4 = .ok (.ifCond .eq 10, 3) := by decide +kernel
theorem dX4_rateFor_7 : decode cX4_rateFor 7 = .ok (.iload_n 2, 1) := by decide +kernel
theorem dX4_rateFor_8 : decode cX4_rateFor 8 = .ok (.invokestatic 118, 3) := by decide +kernel
theorem dX4_rateFor_11 : decode cX4_rateFor 11 = .ok (.ifCond .ne 13, 3) := by decide +kernel
theorem dX4_rateFor_14 : decode cX4_rateFor 14 = .ok (.new 43, 3) := by decide +kernel
theorem dX4_rateFor_17 : decode cX4_rateFor 17 = .ok (.dup, 1) := by decide +kernel
theorem dX4_rateFor_18 : decode cX4_rateFor 18 = .ok (.ldc 131, 2) := by decide +kernel
theorem dX4_rateFor_20 : decode cX4_rateFor 20 = .ok (.invokespecial 47, 3) := by decide +kernel
theorem dX4_rateFor_23 : decode cX4_rateFor 23 = .ok (.athrow, 1) := by decide +kernel
theorem dX4_rateFor_24 : decode cX4_rateFor 24 = .ok (.aload_n 0, 1) := by decide +kernel
theorem dX4_rateFor_25 : decode cX4_rateFor 25 = .ok (.iload_n 1, 1) := by decide +kernel
theorem dX4_rateFor_26 : decode cX4_rateFor 26 = .ok (.iload_n 2, 1) := by decide +kernel
theorem dX4_rateFor_27 : decode cX4_rateFor 27 = .ok (.invokevirtual 133, 3) := by decide +kernel
theorem dX4_rateFor_30 : decode cX4_rateFor 30 = .ok (.astore_n 3, 1) := by decide +kernel
theorem dX4_rateFor_31 : decode cX4_rateFor 31 = .ok (.aload_n 3, 1) := by decide +kernel
theorem dX4_rateFor_32 : decode cX4_rateFor 32 = .ok (.ifnonnull 13, 3) := by decide +kernel
theorem dX4_rateFor_35 : decode cX4_rateFor 35 = .ok (.new 137, 3) := by decide +kernel
theorem dX4_rateFor_38 : decode cX4_rateFor 38 = .ok (.dup, 1) := by decide +kernel
theorem dX4_rateFor_39 : decode cX4_rateFor 39 = .ok (.ldc 139, 2) := by decide +kernel
theorem dX4_rateFor_41 : decode cX4_rateFor 41 = .ok (.invokespecial 141, 3) := by decide +kernel
theorem dX4_rateFor_44 : decode cX4_rateFor 44 = .ok (.athrow, 1) := by decide +kernel
theorem dX4_rateFor_45 : decode cX4_rateFor 45 = .ok (.aload_n 3, 1) := by decide +kernel
theorem dX4_rateFor_46 : decode cX4_rateFor 46 = .ok (.getfield 142, 3) := by decide +kernel
theorem dX4_rateFor_49 : decode cX4_rateFor 49 = .ok (.ireturn, 1) := by decide +kernel
set_option maxRecDepth 20000 in
theorem ggX4_charge_X4_callAt : GoodIn wsX4_charge wsX4_callAt := goodIn_r _ [9, 10, 56, 57, 58, 59, 60, 61, 62, 63] (by decide +kernel) (by decide +kernel)
set_option maxRecDepth 20000 in
theorem gX4_charge_X4_callAt : GoodIn wsX4_charge (wsV RX4 100 RX4 yX4_callAt wsX4_callAt) := goodIn_app (goodIn_of _ (by decide +kernel)) ggX4_charge_X4_callAt
set_option maxRecDepth 20000 in
theorem ggX4_charge_X4_chargeNow : GoodIn wsX4_charge wsX4_chargeNow := goodIn_r _ [14, 15, 16, 17, 18, 19, 20, 21, 22, 23, 24, 25, 8, 26, 27, 28, 29, 30, 31, 32, 33, 34, 35, 36, 37, 38, 39, 40, 41, 42, 43, 44, 45, 46, 47, 48, 49, 50, 51, 52, 53, 54, 55, 64, 65, 66, 67, 68, 69, 70, 71, 56, 57, 58, 59, 60, 61, 62, 63, 72, 73, 74, 75, 76, 77, 78] (by decide +kernel) (by decide +kernel)
set_option maxRecDepth 20000 in
theorem gX4_charge_X4_chargeNow : GoodIn wsX4_charge (wsV RX4 143 RX4 yX4_chargeNow wsX4_chargeNow) := goodIn_app (goodIn_of _ (by decide +kernel)) ggX4_charge_X4_chargeNow
theorem dX4_charge_0 : decode cX4_charge 0 = .ok (.aload_n 0, 1) := by decide +kernel
theorem dX4_charge_1 : decode cX4_charge 1 = .ok (.iload_n 1, 1) := by decide +kernel
theorem dX4_charge_2 : decode cX4_charge 2 = .ok (.invokevirtual 100, 3) := by decide +kernel
theorem dX4_charge_5 : decode cX4_charge 5 = .ok (.astore_n 2, 1) := by decide +kernel
theorem dX4_charge_6 : decode cX4_charge 6 = .ok (.aload_n 2, 1) := by decide +kernel
theorem dX4_charge_7 : decode cX4_charge 7 = .ok (.ifnonnull 13, 3) := by decide +kernel
theorem dX4_charge_10 : decode cX4_charge 10 = .ok (.new 104, 3) := by decide +kernel
theorem dX4_charge_13 : decode cX4_charge 13 = .ok (.dup, 1) := by decide +kernel
theorem dX4_charge_14 : decode cX4_charge 14 = .ok (.ldc 106, 2) := by decide +kernel
theorem dX4_charge_16 : decode cX4_charge 16 = .ok (.invokespecial 108, 3) := by decide +kernel
theorem dX4_charge_19 : decode cX4_charge 19 = .ok (.athrow, 1) := by decide +kernel
theorem dX4_charge_20 : decode cX4_charge 20 = .ok (.aload_n 0, 1) := by decide +kernel
theorem dX4_charge_21 : decode cX4_charge 21 = .ok (.aload_n 2, 1) := by decide +kernel
theorem dX4_charge_22 : decode cX4_charge 22 = .ok (.invokevirtual 143, 3) := by decide +kernel
theorem dX4_charge_25 : decode cX4_charge 25 = .ok (.istore_n 3, 1) := by decide +kernel
theorem dX4_charge_26 : decode cX4_charge 26 = .ok (.iload_n 3, 1) := by decide +kernel
theorem dX4_charge_27 : decode cX4_charge 27 = .ok (.iconst (-1), 1) := by decide +kernel
theorem dX4_charge_28 : decode cX4_charge 28 = .ok (.if_icmp .ne 13, 3) := by decide +kernel
theorem dX4_charge_31 : decode cX4_charge 31 = .ok (.new 137, 3) := by decide +kernel
theorem dX4_charge_34 : decode cX4_charge 34 = .ok (.dup, 1) := by decide +kernel
theorem dX4_charge_35 : decode cX4_charge 35 = .ok (.ldc 147, 2) := by decide +kernel
theorem dX4_charge_37 : decode cX4_charge 37 = .ok (.invokespecial 141, 3) := by decide +kernel
theorem dX4_charge_40 : decode cX4_charge 40 = .ok (.athrow, 1) := by decide +kernel
theorem dX4_charge_41 : decode cX4_charge 41 = .ok (.iload_n 3, 1) := by decide +kernel
theorem dX4_charge_42 : decode cX4_charge 42 = .ok (.ireturn, 1) := by decide +kernel
set_option maxRecDepth 20000 in
theorem ggX4_book_X0_isBooked : GoodIn wsX4_book wsX0_isBooked := goodIn_r _ [7, 8, 62, 63, 64, 65, 66, 67, 68, 69] (by decide +kernel) (by decide +kernel)
set_option maxRecDepth 20000 in
theorem gX4_book_X0_isBooked : GoodIn wsX4_book (wsV RX4 149 RX0 yX0_isBooked wsX0_isBooked) := goodIn_app (goodIn_of _ (by decide +kernel)) ggX4_book_X0_isBooked
set_option maxRecDepth 20000 in
theorem ggX4_book_X4_chargeNow : GoodIn wsX4_book wsX4_chargeNow := goodIn_r _ [13, 14, 15, 16, 17, 18, 6, 19, 20, 21, 22, 23, 12, 24, 25, 26, 27, 28, 29, 30, 31, 32, 33, 34, 35, 36, 37, 38, 39, 40, 41, 42, 43, 44, 45, 46, 47, 48, 49, 50, 51, 52, 53, 62, 63, 64, 65, 66, 67, 68, 69, 54, 55, 56, 57, 58, 59, 60, 61, 70, 71, 72, 73, 74, 75, 76] (by decide +kernel) (by decide +kernel)
set_option maxRecDepth 20000 in
theorem gX4_book_X4_chargeNow : GoodIn wsX4_book (wsV RX4 143 RX4 yX4_chargeNow wsX4_chargeNow) := goodIn_app (goodIn_of _ (by decide +kernel)) ggX4_book_X4_chargeNow
theorem dX4_book_0 : decode cX4_book 0 = .ok (.iconst 0, 1) := by decide +kernel
theorem dX4_book_1 : decode cX4_book 1 = .ok (.istore_n 1, 1) := by decide +kernel
theorem dX4_book_2 : decode cX4_book 2 = .ok (.aload_n 0, 1) := by decide +kernel
theorem dX4_book_3 : decode cX4_book 3 = .ok (.getfield 17, 3) := by decide +kernel
theorem dX4_book_6 : decode cX4_book 6 = .ok (.astore_n 2, 1) := by decide +kernel
theorem dX4_book_7 : decode cX4_book 7 = .ok (.aload_n 2, 1) := by decide +kernel
theorem dX4_book_8 : decode cX4_book 8 = .ok (.arraylength, 1) := by decide +kernel
theorem dX4_book_9 : decode cX4_book 9 = .ok (.istore_n 3, 1) := by decide +kernel
theorem dX4_book_10 : decode cX4_book 10 = .ok (.iconst 0, 1) := by decide +kernel
theorem dX4_book_11 : decode cX4_book 11 = .ok (.istore 4, 2) := by decide +kernel
theorem dX4_book_13 : decode cX4_book 13 = .ok (.iload 4, 2) := by decide +kernel
theorem dX4_book_15 : decode cX4_book 15 = .ok (.iload_n 3, 1) := by decide +kernel
theorem dX4_book_16 : decode cX4_book 16 = .ok (.if_icmp .ge 55, 3) := by decide +kernel
theorem dX4_book_19 : decode cX4_book 19 = .ok (.aload_n 2, 1) := by decide +kernel
theorem dX4_book_20 : decode cX4_book 20 = .ok (.iload 4, 2) := by decide +kernel
theorem dX4_book_22 : decode cX4_book 22 = .ok (.aaload, 1) := by decide +kernel
theorem dX4_book_23 : decode cX4_book 23 = .ok (.astore 5, 2) := by decide +kernel
theorem dX4_book_25 : decode cX4_book 25 = .ok (.aload 5, 2) := by decide +kernel
theorem dX4_book_27 : decode cX4_book 27 = .ok (.ifnull 38, 3) := by decide +kernel
theorem dX4_book_30 : decode cX4_book 30 = .ok (.aload 5, 2) := by decide +kernel
theorem dX4_book_32 : decode cX4_book 32 = .ok (.invokevirtual 149, 3) := by decide +kernel
theorem dX4_book_35 : decode cX4_book 35 = .ok (.ifCond .ne 30, 3) := by decide +kernel
theorem dX4_book_38 : decode cX4_book 38 = .ok (.aload 5, 2) := by decide +kernel
theorem dX4_book_40 : decode cX4_book 40 = .ok (.aload_n 0, 1) := by decide +kernel
theorem dX4_book_41 : decode cX4_book 41 = .ok (.aload 5, 2) := by decide +kernel
theorem dX4_book_43 : decode cX4_book 43 = .ok (.invokevirtual 143, 3) := by decide +kernel
theorem dX4_book_46 : decode cX4_book 46 = .ok (.putfield 153, 3) := by decide +kernel
theorem dX4_book_49 : decode cX4_book 49 = .ok (.iload_n 1, 1) := by decide +kernel
theorem dX4_book_50 : decode cX4_book 50 = .ok (.aload 5, 2) := by decide +kernel
theorem dX4_book_52 : decode cX4_book 52 = .ok (.invokevirtual 149, 3) := by decide +kernel
theorem dX4_book_55 : decode cX4_book 55 = .ok (.ifCond .eq 7, 3) := by decide +kernel
theorem dX4_book_58 : decode cX4_book 58 = .ok (.iconst 1, 1) := by decide +kernel
theorem dX4_book_59 : decode cX4_book 59 = .ok (.goto 4, 3) := by decide +kernel
theorem dX4_book_62 : decode cX4_book 62 = .ok (.iconst 0, 1) := by decide +kernel
theorem dX4_book_63 : decode cX4_book 63 = .ok (.iadd, 1) := by decide +kernel
theorem dX4_book_64 : decode cX4_book 64 = .ok (.istore_n 1, 1) := by decide +kernel
theorem dX4_book_65 : decode cX4_book 65 = .ok (.iinc 4 1, 3) := by decide +kernel
theorem dX4_book_68 : decode cX4_book 68 = .ok (.goto (-55), 3) := by decide +kernel
theorem dX4_book_71 : decode cX4_book 71 = .ok (.iload_n 1, 1) := by decide +kernel
theorem dX4_book_72 : decode cX4_book 72 = .ok (.ireturn, 1) := by decide +kernel
set_option maxRecDepth 20000 in
theorem ggX4_booked_X4_callAt : GoodIn wsX4_booked wsX4_callAt := goodIn_r _ [10, 11, 26, 27, 28, 29, 30, 31, 32, 33] (by decide +kernel) (by decide +kernel)
set_option maxRecDepth 20000 in
theorem gX4_booked_X4_callAt : GoodIn wsX4_booked (wsV RX4 100 RX4 yX4_callAt wsX4_callAt) := goodIn_app (goodIn_of _ (by decide +kernel)) ggX4_booked_X4_callAt
set_option maxRecDepth 20000 in
theorem ggX4_booked_X0_isBooked : GoodIn wsX4_booked wsX0_isBooked := goodIn_r _ [16, 17, 18, 19, 20, 21, 22, 23, 24, 25] (by decide +kernel) (by decide +kernel)
set_option maxRecDepth 20000 in
theorem gX4_booked_X0_isBooked : GoodIn wsX4_booked (wsV RX4 149 RX0 yX0_isBooked wsX0_isBooked) := goodIn_app (goodIn_of _ (by decide +kernel)) ggX4_booked_X0_isBooked
theorem dX4_booked_0 : decode cX4_booked 0 = .ok (.aload_n 0, 1) := by decide +kernel
theorem dX4_booked_1 : decode cX4_booked 1 = .ok (.iload_n 1, 1) := by decide +kernel
theorem dX4_booked_2 : decode cX4_booked 2 = .ok (.invokevirtual 100, 3) := by decide +kernel
theorem dX4_booked_5 : decode cX4_booked 5 = .ok (.astore_n 2, 1) := by decide +kernel
theorem dX4_booked_6 : decode cX4_booked 6 = .ok (.aload_n 2, 1) := by decide +kernel
theorem dX4_booked_7 : decode cX4_booked 7 = .ok (.ifnonnull 13, 3) := by decide +kernel
theorem dX4_booked_10 : decode cX4_booked 10 = .ok (.new 104, 3) := by decide +kernel
theorem dX4_booked_13 : decode cX4_booked 13 = .ok (.dup, 1) := by decide +kernel
theorem dX4_booked_14 : decode cX4_booked 14 = .ok (.ldc 106, 2) := by decide +kernel
theorem dX4_booked_16 : decode cX4_booked 16 = .ok (.invokespecial 108, 3) := by decide +kernel
theorem dX4_booked_19 : decode cX4_booked 19 = .ok (.athrow, 1) := by decide +kernel
theorem dX4_booked_20 : decode cX4_booked 20 = .ok (.aload_n 2, 1) := by decide +kernel
theorem dX4_booked_21 : decode cX4_booked 21 = .ok (.invokevirtual 149, 3) := by decide +kernel
theorem dX4_booked_24 : decode cX4_booked 24 = .ok (.ifCond .ne 13, 3) := by decide +kernel
theorem dX4_booked_27 : decode cX4_booked 27 = .ok (.new 137, 3) := by decide +kernel
theorem dX4_booked_30 : decode cX4_booked 30 = .ok (.dup, 1) := by decide +kernel
theorem dX4_booked_31 : decode cX4_booked 31 = .ok (.ldc 156, 2) := by decide +kernel
theorem dX4_booked_33 : decode cX4_booked 33 = .ok (.invokespecial 141, 3) := by decide +kernel
theorem dX4_booked_36 : decode cX4_booked 36 = .ok (.athrow, 1) := by decide +kernel
theorem dX4_booked_37 : decode cX4_booked 37 = .ok (.aload_n 2, 1) := by decide +kernel
theorem dX4_booked_38 : decode cX4_booked 38 = .ok (.getfield 153, 3) := by decide +kernel
theorem dX4_booked_41 : decode cX4_booked 41 = .ok (.ireturn, 1) := by decide +kernel
set_option maxRecDepth 20000 in
theorem ggX4_correct_X0_isBooked : GoodIn wsX4_correct wsX0_isBooked := goodIn_r _ [6, 7, 67, 68, 69, 70, 71, 72, 73, 74] (by decide +kernel) (by decide +kernel)
set_option maxRecDepth 20000 in
theorem gX4_correct_X0_isBooked : GoodIn wsX4_correct (wsV RX4 149 RX0 yX0_isBooked wsX0_isBooked) := goodIn_app (goodIn_of _ (by decide +kernel)) ggX4_correct_X0_isBooked
set_option maxRecDepth 20000 in
theorem ggX4_correct_X4_changeByCorrecting : GoodIn wsX4_correct wsX4_changeByCorrecting := goodIn_r _ [12, 13, 14, 15, 16, 17, 11, 18, 19, 20, 21, 22, 23, 5, 24, 25, 26, 27, 28, 29, 30, 31, 32, 33, 34, 35, 36, 37, 38, 39, 40, 41, 42, 43, 44, 45, 46, 47, 48, 49, 50, 51, 52, 53, 54, 55, 56, 57, 58, 67, 68, 69, 70, 71, 72, 73, 74, 59, 60, 61, 62, 63, 64, 65, 66, 75, 76, 77, 78, 79, 80, 81] (by decide +kernel) (by decide +kernel)
set_option maxRecDepth 20000 in
theorem gX4_correct_X4_changeByCorrecting : GoodIn wsX4_correct (wsV RX4 158 RX4 yX4_changeByCorrecting wsX4_changeByCorrecting) := goodIn_app (goodIn_of _ (by decide +kernel)) ggX4_correct_X4_changeByCorrecting
theorem dX4_correct_0 : decode cX4_correct 0 = .ok (.iconst 0, 1) := by decide +kernel
theorem dX4_correct_1 : decode cX4_correct 1 = .ok (.istore_n 1, 1) := by decide +kernel
theorem dX4_correct_2 : decode cX4_correct 2 = .ok (.aload_n 0, 1) := by decide +kernel
theorem dX4_correct_3 : decode cX4_correct 3 = .ok (.getfield 17, 3) := by decide +kernel
theorem dX4_correct_6 : decode cX4_correct 6 = .ok (.astore_n 2, 1) := by decide +kernel
theorem dX4_correct_7 : decode cX4_correct 7 = .ok (.aload_n 2, 1) := by decide +kernel
theorem dX4_correct_8 : decode cX4_correct 8 = .ok (.arraylength, 1) := by decide +kernel
theorem dX4_correct_9 : decode cX4_correct 9 = .ok (.istore_n 3, 1) := by decide +kernel
theorem dX4_correct_10 : decode cX4_correct 10 = .ok (.iconst 0, 1) := by decide +kernel
theorem dX4_correct_11 : decode cX4_correct 11 = .ok (.istore 4, 2) := by decide +kernel
theorem dX4_correct_13 : decode cX4_correct 13 = .ok (.iload 4, 2) := by decide +kernel
theorem dX4_correct_15 : decode cX4_correct 15 = .ok (.iload_n 3, 1) := by decide +kernel
theorem dX4_correct_16 : decode cX4_correct 16 = .ok (.if_icmp .ge 37, 3) := by decide +kernel
theorem dX4_correct_19 : decode cX4_correct 19 = .ok (.aload_n 2, 1) := by decide +kernel
theorem dX4_correct_20 : decode cX4_correct 20 = .ok (.iload 4, 2) := by decide +kernel
theorem dX4_correct_22 : decode cX4_correct 22 = .ok (.aaload, 1) := by decide +kernel
theorem dX4_correct_23 : decode cX4_correct 23 = .ok (.astore 5, 2) := by decide +kernel
theorem dX4_correct_25 : decode cX4_correct 25 = .ok (.aload 5, 2) := by decide +kernel
theorem dX4_correct_27 : decode cX4_correct 27 = .ok (.ifnull 20, 3) := by decide +kernel
theorem dX4_correct_30 : decode cX4_correct 30 = .ok (.aload 5, 2) := by decide +kernel
theorem dX4_correct_32 : decode cX4_correct 32 = .ok (.invokevirtual 149, 3) := by decide +kernel
theorem dX4_correct_35 : decode cX4_correct 35 = .ok (.ifCond .eq 12, 3) := by decide +kernel
theorem dX4_correct_38 : decode cX4_correct 38 = .ok (.iload_n 1, 1) := by decide +kernel
theorem dX4_correct_39 : decode cX4_correct 39 = .ok (.aload_n 0, 1) := by decide +kernel
theorem dX4_correct_40 : decode cX4_correct 40 = .ok (.aload 5, 2) := by decide +kernel
theorem dX4_correct_42 : decode cX4_correct 42 = .ok (.invokevirtual 158, 3) := by decide +kernel
theorem dX4_correct_45 : decode cX4_correct 45 = .ok (.iadd, 1) := by decide +kernel
theorem dX4_correct_46 : decode cX4_correct 46 = .ok (.istore_n 1, 1) := by decide +kernel
theorem dX4_correct_47 : decode cX4_correct 47 = .ok (.iinc 4 1, 3) := by decide +kernel
theorem dX4_correct_50 : decode cX4_correct 50 = .ok (.goto (-37), 3) := by decide +kernel
theorem dX4_correct_53 : decode cX4_correct 53 = .ok (.iload_n 1, 1) := by decide +kernel
theorem dX4_correct_54 : decode cX4_correct 54 = .ok (.ireturn, 1) := by decide +kernel
theorem dX4_corrections_0 : decode cX4_corrections 0 = .ok (.aload_n 0, 1) := by decide +kernel
theorem dX4_corrections_1 : decode cX4_corrections 1 = .ok (.getfield 161, 3) := by decide +kernel
theorem dX4_corrections_4 : decode cX4_corrections 4 = .ok (.ireturn, 1) := by decide +kernel
set_option maxRecDepth 20000 in
theorem ggX4_total_X4_isPrefix : GoodIn wsX4_total wsX4_isPrefix := goodIn_r _ [8, 9, 10, 11, 7, 12] (by decide +kernel) (by decide +kernel)
set_option maxRecDepth 20000 in
theorem gX4_total_X4_isPrefix : GoodIn wsX4_total (va_wsS RX4 115 yX4_isPrefix wsX4_isPrefix) := goodIn_app (goodIn_of _ (by decide +kernel)) ggX4_total_X4_isPrefix
set_option maxRecDepth 20000 in
theorem ggX4_total_X4_fits : GoodIn wsX4_total wsX4_fits := goodIn_r _ [15] (by decide +kernel) (by decide +kernel)
set_option maxRecDepth 20000 in
theorem gX4_total_X4_fits : GoodIn wsX4_total (va_wsS RX4 169 yX4_fits wsX4_fits) := goodIn_app (goodIn_of _ (by decide +kernel)) ggX4_total_X4_fits
set_option maxRecDepth 20000 in
theorem ggX4_total_X0_bookedOrZero : GoodIn wsX4_total wsX0_bookedOrZero := goodIn_r _ [20, 21, 22, 23, 24, 19, 25, 34, 35, 36, 37, 38, 39, 40, 41] (by decide +kernel) (by decide +kernel)
set_option maxRecDepth 20000 in
theorem gX4_total_X0_bookedOrZero : GoodIn wsX4_total (wsV RX4 173 RX0 yX0_bookedOrZero wsX0_bookedOrZero) := goodIn_app (goodIn_of _ (by decide +kernel)) ggX4_total_X0_bookedOrZero
theorem dX4_total_0 : decode cX4_total 0 = .ok (.iload_n 1, 1) := by decide +kernel
theorem dX4_total_1 : decode cX4_total 1 = .ok (.invokestatic 115, 3) := by decide +kernel
theorem dX4_total_4 : decode cX4_total 4 = .ok (.ifCond .ne 13, 3) := by decide +kernel
theorem dX4_total_7 : decode cX4_total 7 = .ok (.new 43, 3) := by decide +kernel
theorem dX4_total_10 : decode cX4_total 10 = .ok (.dup, 1) := by decide +kernel
theorem dX4_total_11 : decode cX4_total 11 = .ok (.ldc 164, 2) := by decide +kernel
theorem dX4_total_13 : decode cX4_total 13 = .ok (.invokespecial 47, 3) := by decide +kernel
theorem dX4_total_16 : decode cX4_total 16 = .ok (.athrow, 1) := by decide +kernel
theorem dX4_total_17 : decode cX4_total 17 = .ok (.iconst 0, 1) := by decide +kernel
theorem dX4_total_18 : decode cX4_total 18 = .ok (.istore_n 2, 1) := by decide +kernel
theorem dX4_total_19 : decode cX4_total 19 = .ok (.aload_n 0, 1) := by decide +kernel
theorem dX4_total_20 : decode cX4_total 20 = .ok (.getfield 17, 3) := by decide +kernel
theorem dX4_total_23 : decode cX4_total 23 = .ok (.astore_n 3, 1) := by decide +kernel
theorem dX4_total_24 : decode cX4_total 24 = .ok (.aload_n 3, 1) := by decide +kernel
theorem dX4_total_25 : decode cX4_total 25 = .ok (.arraylength, 1) := by decide +kernel
theorem dX4_total_26 : decode cX4_total 26 = .ok (.istore 4, 2) := by decide +kernel
theorem dX4_total_28 : decode cX4_total 28 = .ok (.iconst 0, 1) := by decide +kernel
theorem dX4_total_29 : decode cX4_total 29 = .ok (.istore 5, 2) := by decide +kernel
theorem dX4_total_31 : decode cX4_total 31 = .ok (.iload 5, 2) := by decide +kernel
theorem dX4_total_33 : decode cX4_total 33 = .ok (.iload 4, 2) := by decide +kernel
theorem dX4_total_35 : decode cX4_total 35 = .ok (.if_icmp .ge 40, 3) := by decide +kernel
theorem dX4_total_38 : decode cX4_total 38 = .ok (.aload_n 3, 1) := by decide +kernel
theorem dX4_total_39 : decode cX4_total 39 = .ok (.iload 5, 2) := by decide +kernel
theorem dX4_total_41 : decode cX4_total 41 = .ok (.aaload, 1) := by decide +kernel
theorem dX4_total_42 : decode cX4_total 42 = .ok (.astore 6, 2) := by decide +kernel
theorem dX4_total_44 : decode cX4_total 44 = .ok (.aload 6, 2) := by decide +kernel
theorem dX4_total_46 : decode cX4_total 46 = .ok (.ifnull 23, 3) := by decide +kernel
theorem dX4_total_49 : decode cX4_total 49 = .ok (.iload_n 1, 1) := by decide +kernel
theorem dX4_total_50 : decode cX4_total 50 = .ok (.aload 6, 2) := by decide +kernel
theorem dX4_total_52 : decode cX4_total 52 = .ok (.getfield 166, 3) := by decide +kernel
theorem dX4_total_55 : decode cX4_total 55 = .ok (.invokestatic 169, 3) := by decide +kernel
theorem dX4_total_58 : decode cX4_total 58 = .ok (.ifCond .eq 11, 3) := by decide +kernel
theorem dX4_total_61 : decode cX4_total 61 = .ok (.iload_n 2, 1) := by decide +kernel
theorem dX4_total_62 : decode cX4_total 62 = .ok (.aload 6, 2) := by decide +kernel
theorem dX4_total_64 : decode cX4_total 64 = .ok (.invokevirtual 173, 3) := by decide +kernel
theorem dX4_total_67 : decode cX4_total 67 = .ok (.iadd, 1) := by decide +kernel
theorem dX4_total_68 : decode cX4_total 68 = .ok (.istore_n 2, 1) := by decide +kernel
theorem dX4_total_69 : decode cX4_total 69 = .ok (.iinc 5 1, 3) := by decide +kernel
theorem dX4_total_72 : decode cX4_total 72 = .ok (.goto (-41), 3) := by decide +kernel
theorem dX4_total_75 : decode cX4_total 75 = .ok (.iload_n 2, 1) := by decide +kernel
theorem dX4_total_76 : decode cX4_total 76 = .ok (.ireturn, 1) := by decide +kernel
set_option maxRecDepth 20000 in
theorem ggX4_offer_X4_carrierAt : GoodIn wsX4_offer wsX4_carrierAt := goodIn_r _ [9, 10, 33, 34, 35, 36, 37, 38, 39, 40] (by decide +kernel) (by decide +kernel)
set_option maxRecDepth 20000 in
theorem gX4_offer_X4_carrierAt : GoodIn wsX4_offer (wsV RX4 176 RX4 yX4_carrierAt wsX4_carrierAt) := goodIn_app (goodIn_of _ (by decide +kernel)) ggX4_offer_X4_carrierAt
set_option maxRecDepth 20000 in
theorem ggX4_offer_X4_isPrefix : GoodIn wsX4_offer wsX4_isPrefix := goodIn_r _ [13, 14, 15, 16, 8, 17] (by decide +kernel) (by decide +kernel)
set_option maxRecDepth 20000 in
theorem gX4_offer_X4_isPrefix : GoodIn wsX4_offer (va_wsS RX4 115 yX4_isPrefix wsX4_isPrefix) := goodIn_app (goodIn_of _ (by decide +kernel)) ggX4_offer_X4_isPrefix
set_option maxRecDepth 20000 in
theorem ggX4_offer_X4_within : GoodIn wsX4_offer wsX4_within := goodIn_r _ [17] (by decide +kernel) (by decide +kernel)
set_option maxRecDepth 20000 in
theorem gX4_offer_X4_within : GoodIn wsX4_offer (va_wsS RX4 39 yX4_within wsX4_within) := goodIn_app (goodIn_of _ (by decide +kernel)) ggX4_offer_X4_within
set_option maxRecDepth 20000 in
theorem ggX4_offer_X1_hasPlaceFor : GoodIn wsX4_offer wsX1_hasPlaceFor := goodIn_r _ [22, 23, 24, 25, 21, 26, 27, 41, 42] (by decide +kernel) (by decide +kernel)
set_option maxRecDepth 20000 in
theorem gX4_offer_X1_hasPlaceFor : GoodIn wsX4_offer (wsV RX4 182 RX1 yX1_hasPlaceFor wsX1_hasPlaceFor) := goodIn_app (goodIn_of _ (by decide +kernel)) ggX4_offer_X1_hasPlaceFor
set_option maxRecDepth 20000 in
theorem ggX4_offer_X1_replacePrice : GoodIn wsX4_offer wsX1_replacePrice := goodIn_r _ [31, 32, 27, 23, 24, 25, 21, 26, 41, 42] (by decide +kernel) (by decide +kernel)
set_option maxRecDepth 20000 in
theorem gX4_offer_X1_replacePrice : GoodIn wsX4_offer (wsV RX4 187 RX1 yX1_replacePrice wsX1_replacePrice) := goodIn_app (goodIn_of _ (by decide +kernel)) ggX4_offer_X1_replacePrice
theorem dX4_offer_0 : decode cX4_offer 0 = .ok (.aload_n 0, 1) := by decide +kernel
theorem dX4_offer_1 : decode cX4_offer 1 = .ok (.iload_n 1, 1) := by decide +kernel
theorem dX4_offer_2 : decode cX4_offer 2 = .ok (.invokevirtual 176, 3) := by decide +kernel
theorem dX4_offer_5 : decode cX4_offer 5 = .ok (.astore 4, 2) := by decide +kernel
theorem dX4_offer_7 : decode cX4_offer 7 = .ok (.aload 4, 2) := by decide +kernel
theorem dX4_offer_9 : decode cX4_offer 9 = .ok (.ifnull 21, 3) := by decide +kernel
theorem dX4_offer_12 : decode cX4_offer 12 = .ok (.iload_n 2, 1) := by decide +kernel
theorem dX4_offer_13 : decode cX4_offer 13 = .ok (.invokestatic 115, 3) := by decide +kernel
theorem dX4_offer_16 : decode cX4_offer 16 = .ok (.ifCond .eq 14, 3) := by decide +kernel
theorem dX4_offer_19 : decode cX4_offer 19 = .ok (.iload_n 3, 1) := by decide +kernel
theorem dX4_offer_20 : decode cX4_offer 20 = .ok (.iconst (-1), 1) := by decide +kernel
theorem dX4_offer_21 : decode cX4_offer 21 = .ok (.sipush 10000, 3) := by decide +kernel
theorem dX4_offer_24 : decode cX4_offer 24 = .ok (.invokestatic 39, 3) := by decide +kernel
theorem dX4_offer_27 : decode cX4_offer 27 = .ok (.ifCond .ne 13, 3) := by decide +kernel
theorem dX4_offer_30 : decode cX4_offer 30 = .ok (.new 43, 3) := by decide +kernel
theorem dX4_offer_33 : decode cX4_offer 33 = .ok (.dup, 1) := by decide +kernel
theorem dX4_offer_34 : decode cX4_offer 34 = .ok (.ldc 180, 2) := by decide +kernel
theorem dX4_offer_36 : decode cX4_offer 36 = .ok (.invokespecial 47, 3) := by decide +kernel
theorem dX4_offer_39 : decode cX4_offer 39 = .ok (.athrow, 1) := by decide +kernel
theorem dX4_offer_40 : decode cX4_offer 40 = .ok (.iload_n 3, 1) := by decide +kernel
theorem dX4_offer_41 : decode cX4_offer 41 = .ok (.iconst (-1), 1) := by decide +kernel
theorem dX4_offer_42 : decode cX4_offer 42 = .ok (.if_icmp .eq 22, 3) := by decide +kernel
theorem dX4_offer_45 : decode cX4_offer 45 = .ok (.aload 4, 2) := by decide +kernel
theorem dX4_offer_47 : decode cX4_offer 47 = .ok (.iload_n 2, 1) := by decide +kernel
theorem dX4_offer_48 : decode cX4_offer 48 = .ok (.invokevirtual 182, 3) := by decide +kernel
theorem dX4_offer_51 : decode cX4_offer 51 = .ok (.ifCond .ne 13, 3) := by decide +kernel
theorem dX4_offer_54 : decode cX4_offer 54 = .ok (.new 75, 3) := by decide +kernel
theorem dX4_offer_57 : decode cX4_offer 57 = .ok (.dup, 1) := by decide +kernel
theorem dX4_offer_58 : decode cX4_offer 58 = .ok (.ldc 185, 2) := by decide +kernel
theorem dX4_offer_60 : decode cX4_offer 60 = .ok (.invokespecial 79, 3) := by decide +kernel
theorem dX4_offer_63 : decode cX4_offer 63 = .ok (.athrow, 1) := by decide +kernel
theorem dX4_offer_64 : decode cX4_offer 64 = .ok (.aload 4, 2) := by decide +kernel
theorem dX4_offer_66 : decode cX4_offer 66 = .ok (.iload_n 2, 1) := by decide +kernel
theorem dX4_offer_67 : decode cX4_offer 67 = .ok (.iload_n 3, 1) := by decide +kernel
theorem dX4_offer_68 : decode cX4_offer 68 = .ok (.invokevirtual 187, 3) := by decide +kernel
theorem dX4_offer_71 : decode cX4_offer 71 = .ok (.ireturn, 1) := by decide +kernel
set_option maxRecDepth 20000 in
theorem ggX4_offerFor_X4_carrierAt : GoodIn wsX4_offerFor wsX4_carrierAt := goodIn_r _ [9, 10, 27, 28, 29, 30, 31, 32, 33, 34] (by decide +kernel) (by decide +kernel)
set_option maxRecDepth 20000 in
theorem gX4_offerFor_X4_carrierAt : GoodIn wsX4_offerFor (wsV RX4 176 RX4 yX4_carrierAt wsX4_carrierAt) := goodIn_app (goodIn_of _ (by decide +kernel)) ggX4_offerFor_X4_carrierAt
set_option maxRecDepth 20000 in
theorem ggX4_offerFor_X4_isNumber : GoodIn wsX4_offerFor wsX4_isNumber := goodIn_r _ [13, 14, 15, 16, 8, 17] (by decide +kernel) (by decide +kernel)
set_option maxRecDepth 20000 in
theorem gX4_offerFor_X4_isNumber : GoodIn wsX4_offerFor (va_wsS RX4 54 yX4_isNumber wsX4_isNumber) := goodIn_app (goodIn_of _ (by decide +kernel)) ggX4_offerFor_X4_isNumber
set_option maxRecDepth 20000 in
theorem ggX4_offerFor_X1_priceFor : GoodIn wsX4_offerFor wsX1_priceFor := goodIn_r _ [22, 23, 24, 25, 8, 26, 35, 36] (by decide +kernel) (by decide +kernel)
set_option maxRecDepth 20000 in
theorem gX4_offerFor_X1_priceFor : GoodIn wsX4_offerFor (wsV RX4 193 RX1 yX1_priceFor wsX1_priceFor) := goodIn_app (goodIn_of _ (by decide +kernel)) ggX4_offerFor_X1_priceFor
theorem dX4_offerFor_0 : decode cX4_offerFor 0 = .ok (.aload_n 0, 1) := by decide +kernel
theorem dX4_offerFor_1 : decode cX4_offerFor 1 = .ok (.iload_n 1, 1) := by decide +kernel
theorem dX4_offerFor_2 : decode cX4_offerFor 2 = .ok (.invokevirtual 176, 3) := by decide +kernel
theorem dX4_offerFor_5 : decode cX4_offerFor 5 = .ok (.astore_n 3, 1) := by decide +kernel
theorem dX4_offerFor_6 : decode cX4_offerFor 6 = .ok (.aload_n 3, 1) := by decide +kernel
theorem dX4_offerFor_7 : decode cX4_offerFor 7 = .ok (.ifnull 10, 3) := by decide +kernel
theorem dX4_offerFor_10 : decode cX4_offerFor 10 = .ok (.iload_n 2, 1) := by decide +kernel
theorem dX4_offerFor_11 : decode cX4_offerFor 11 = .ok (.invokestatic 54, 3) := by decide +kernel
theorem dX4_offerFor_14 : decode cX4_offerFor 14 = .ok (.ifCond .ne 13, 3) := by decide +kernel
theorem dX4_offerFor_17 : decode cX4_offerFor 17 = .ok (.new 43, 3) := by decide +kernel
theorem dX4_offerFor_20 : decode cX4_offerFor 20 = .ok (.dup, 1) := by decide +kernel
theorem dX4_offerFor_21 : decode cX4_offerFor 21 = .ok (.ldc 191, 2) := by decide +kernel
theorem dX4_offerFor_23 : decode cX4_offerFor 23 = .ok (.invokespecial 47, 3) := by decide +kernel
theorem dX4_offerFor_26 : decode cX4_offerFor 26 = .ok (.athrow, 1) := by decide +kernel
theorem dX4_offerFor_27 : decode cX4_offerFor 27 = .ok (.aload_n 3, 1) := by decide +kernel
theorem dX4_offerFor_28 : decode cX4_offerFor 28 = .ok (.iload_n 2, 1) := by decide +kernel
theorem dX4_offerFor_29 : decode cX4_offerFor 29 = .ok (.invokevirtual 193, 3) := by decide +kernel
theorem dX4_offerFor_32 : decode cX4_offerFor 32 = .ok (.istore 4, 2) := by decide +kernel
theorem dX4_offerFor_34 : decode cX4_offerFor 34 = .ok (.iload 4, 2) := by decide +kernel
theorem dX4_offerFor_36 : decode cX4_offerFor 36 = .ok (.iconst (-1), 1) := by decide +kernel
theorem dX4_offerFor_37 : decode cX4_offerFor 37 = .ok (.if_icmp .ne 13, 3) := by decide +kernel
theorem dX4_offerFor_40 : decode cX4_offerFor 40 = .ok (.new 137, 3) := by decide +kernel
theorem dX4_offerFor_43 : decode cX4_offerFor 43 = .ok (.dup, 1) := by decide +kernel
theorem dX4_offerFor_44 : decode cX4_offerFor 44 = .ok (.ldc 197, 2) := by decide +kernel
theorem dX4_offerFor_46 : decode cX4_offerFor 46 = .ok (.invokespecial 141, 3) := by decide +kernel
theorem dX4_offerFor_49 : decode cX4_offerFor 49 = .ok (.athrow, 1) := by decide +kernel
theorem dX4_offerFor_50 : decode cX4_offerFor 50 = .ok (.iload 4, 2) := by decide +kernel
theorem dX4_offerFor_52 : decode cX4_offerFor 52 = .ok (.ireturn, 1) := by decide +kernel
set_option maxRecDepth 20000 in
theorem ggX4_route_X4_isNumber : GoodIn wsX4_route wsX4_isNumber := goodIn_r _ [9, 10, 11, 12, 8, 13] (by decide +kernel) (by decide +kernel)
set_option maxRecDepth 20000 in
theorem gX4_route_X4_isNumber : GoodIn wsX4_route (va_wsS RX4 54 yX4_isNumber wsX4_isNumber) := goodIn_app (goodIn_of _ (by decide +kernel)) ggX4_route_X4_isNumber
set_option maxRecDepth 20000 in
theorem ggX4_route_X4_isDay : GoodIn wsX4_route wsX4_isDay := goodIn_r _ [16, 11, 12, 8, 13] (by decide +kernel) (by decide +kernel)
set_option maxRecDepth 20000 in
theorem gX4_route_X4_isDay : GoodIn wsX4_route (va_wsS RX4 118 yX4_isDay wsX4_isDay) := goodIn_app (goodIn_of _ (by decide +kernel)) ggX4_route_X4_isDay
set_option maxRecDepth 20000 in
theorem ggX4_route_X4_within : GoodIn wsX4_route wsX4_within := goodIn_r _ [13] (by decide +kernel) (by decide +kernel)
set_option maxRecDepth 20000 in
theorem gX4_route_X4_within : GoodIn wsX4_route (va_wsS RX4 39 yX4_within wsX4_within) := goodIn_app (goodIn_of _ (by decide +kernel)) ggX4_route_X4_within
set_option maxRecDepth 20000 in
theorem ggX4_route_X4_rateInForce : GoodIn wsX4_route wsX4_rateInForce := goodIn_r _ [20, 21, 22, 23, 24, 25, 8, 26, 27, 28, 29, 30, 31, 32, 33, 34, 66, 67, 68, 69, 70, 71, 72, 73, 59, 60, 61, 62, 63, 64, 65] (by decide +kernel) (by decide +kernel)
set_option maxRecDepth 20000 in
theorem gX4_route_X4_rateInForce : GoodIn wsX4_route (wsV RX4 133 RX4 yX4_rateInForce wsX4_rateInForce) := goodIn_app (goodIn_of _ (by decide +kernel)) ggX4_route_X4_rateInForce
set_option maxRecDepth 20000 in
theorem ggX4_route_X4_carrierOfRank : GoodIn wsX4_route wsX4_carrierOfRank := goodIn_r _ [38, 39, 40, 41, 42, 8, 43, 44, 45, 46, 47, 48, 49, 50, 51, 52, 53, 54, 25, 26, 55, 56, 57, 58, 66, 67, 68, 69, 70, 71, 72, 73, 74, 75] (by decide +kernel) (by decide +kernel)
set_option maxRecDepth 20000 in
theorem gX4_route_X4_carrierOfRank : GoodIn wsX4_route (wsV RX4 204 RX4 yX4_carrierOfRank wsX4_carrierOfRank) := goodIn_app (goodIn_of _ (by decide +kernel)) ggX4_route_X4_carrierOfRank
theorem dX4_route_0 : decode cX4_route 0 = .ok (.iload_n 1, 1) := by decide +kernel
theorem dX4_route_1 : decode cX4_route 1 = .ok (.invokestatic 54, 3) := by decide +kernel
theorem dX4_route_4 : decode cX4_route 4 = .ok (.ifCond .eq 26, 3) := by decide +kernel
theorem dX4_route_7 : decode cX4_route 7 = .ok (.iload_n 2, 1) := by decide +kernel
theorem dX4_route_8 : decode cX4_route 8 = .ok (.invokestatic 118, 3) := by decide +kernel
theorem dX4_route_11 : decode cX4_route 11 = .ok (.ifCond .eq 19, 3) := by decide +kernel
theorem dX4_route_14 : decode cX4_route 14 = .ok (.iload_n 3, 1) := by decide +kernel
theorem dX4_route_15 : decode cX4_route 15 = .ok (.iconst 0, 1) := by decide +kernel
theorem dX4_route_16 : decode cX4_route 16 = .ok (.sipush 10000, 3) := by decide +kernel
theorem dX4_route_19 : decode cX4_route 19 = .ok (.invokestatic 39, 3) := by decide +kernel
theorem dX4_route_22 : decode cX4_route 22 = .ok (.ifCond .eq 8, 3) := by decide +kernel
theorem dX4_route_25 : decode cX4_route 25 = .ok (.iload 4, 2) := by decide +kernel
theorem dX4_route_27 : decode cX4_route 27 = .ok (.ifCond .ge 13, 3) := by decide +kernel
theorem dX4_route_30 : decode cX4_route 30 = .ok (.new 43, 3) := by decide +kernel
theorem dX4_route_33 : decode cX4_route 33 = .ok (.dup, 1) := by decide +kernel
theorem dX4_route_34 : decode cX4_route 34 = .ok (.ldc 199, 2) := by decide +kernel
theorem dX4_route_36 : decode cX4_route 36 = .ok (.invokespecial 47, 3) := by decide +kernel
theorem dX4_route_39 : decode cX4_route 39 = .ok (.athrow, 1) := by decide +kernel
theorem dX4_route_40 : decode cX4_route 40 = .ok (.aload_n 0, 1) := by decide +kernel
theorem dX4_route_41 : decode cX4_route 41 = .ok (.iload_n 1, 1) := by decide +kernel
theorem dX4_route_42 : decode cX4_route 42 = .ok (.iload_n 2, 1) := by decide +kernel
theorem dX4_route_43 : decode cX4_route 43 = .ok (.invokevirtual 133, 3) := by decide +kernel
theorem dX4_route_46 : decode cX4_route 46 = .ok (.astore 5, 2) := by decide +kernel
theorem dX4_route_48 : decode cX4_route 48 = .ok (.aload 5, 2) := by decide +kernel
theorem dX4_route_50 : decode cX4_route 50 = .ok (.ifnonnull 13, 3) := by decide +kernel
theorem dX4_route_53 : decode cX4_route 53 = .ok (.new 137, 3) := by decide +kernel
theorem dX4_route_56 : decode cX4_route 56 = .ok (.dup, 1) := by decide +kernel
theorem dX4_route_57 : decode cX4_route 57 = .ok (.ldc 139, 2) := by decide +kernel
theorem dX4_route_59 : decode cX4_route 59 = .ok (.invokespecial 141, 3) := by decide +kernel
theorem dX4_route_62 : decode cX4_route 62 = .ok (.athrow, 1) := by decide +kernel
theorem dX4_route_63 : decode cX4_route 63 = .ok (.aload_n 0, 1) := by decide +kernel
theorem dX4_route_64 : decode cX4_route 64 = .ok (.iload_n 1, 1) := by decide +kernel
theorem dX4_route_65 : decode cX4_route 65 = .ok (.aload 5, 2) := by decide +kernel
theorem dX4_route_67 : decode cX4_route 67 = .ok (.getfield 201, 3) := by decide +kernel
theorem dX4_route_70 : decode cX4_route 70 = .ok (.iload_n 3, 1) := by decide +kernel
theorem dX4_route_71 : decode cX4_route 71 = .ok (.isub, 1) := by decide +kernel
theorem dX4_route_72 : decode cX4_route 72 = .ok (.iload 4, 2) := by decide +kernel
theorem dX4_route_74 : decode cX4_route 74 = .ok (.invokevirtual 204, 3) := by decide +kernel
theorem dX4_route_77 : decode cX4_route 77 = .ok (.istore 6, 2) := by decide +kernel
theorem dX4_route_79 : decode cX4_route 79 = .ok (.iload 6, 2) := by decide +kernel
theorem dX4_route_81 : decode cX4_route 81 = .ok (.iconst (-1), 1) := by decide +kernel
theorem dX4_route_82 : decode cX4_route 82 = .ok (.if_icmp .ne 13, 3) := by decide +kernel
theorem dX4_route_85 : decode cX4_route 85 = .ok (.new 137, 3) := by decide +kernel
theorem dX4_route_88 : decode cX4_route 88 = .ok (.dup, 1) := by decide +kernel
theorem dX4_route_89 : decode cX4_route 89 = .ok (.ldc 208, 2) := by decide +kernel
theorem dX4_route_91 : decode cX4_route 91 = .ok (.invokespecial 141, 3) := by decide +kernel
theorem dX4_route_94 : decode cX4_route 94 = .ok (.athrow, 1) := by decide +kernel
theorem dX4_route_95 : decode cX4_route 95 = .ok (.iload 6, 2) := by decide +kernel
theorem dX4_route_97 : decode cX4_route 97 = .ok (.ireturn, 1) := by decide +kernel
set_option maxRecDepth 20000 in
theorem ggX4_claim_X4_callAt : GoodIn wsX4_claim wsX4_callAt := goodIn_r _ [11, 12, 24, 25, 26, 27, 28, 29, 30, 31] (by decide +kernel) (by decide +kernel)
set_option maxRecDepth 20000 in
theorem gX4_claim_X4_callAt : GoodIn wsX4_claim (wsV RX4 100 RX4 yX4_callAt wsX4_callAt) := goodIn_app (goodIn_of _ (by decide +kernel)) ggX4_claim_X4_callAt
set_option maxRecDepth 20000 in
theorem ggX4_claim_X4_within : GoodIn wsX4_claim wsX4_within := goodIn_r _ [15] (by decide +kernel) (by decide +kernel)
set_option maxRecDepth 20000 in
theorem gX4_claim_X4_within : GoodIn wsX4_claim (va_wsS RX4 39 yX4_within wsX4_within) := goodIn_app (goodIn_of _ (by decide +kernel)) ggX4_claim_X4_within
theorem dX4_claim_0 : decode cX4_claim 0 = .ok (.aload_n 0, 1) := by decide +kernel
theorem dX4_claim_1 : decode cX4_claim 1 = .ok (.iload_n 1, 1) := by decide +kernel
theorem dX4_claim_2 : decode cX4_claim 2 = .ok (.invokevirtual 100, 3) := by decide +kernel
theorem dX4_claim_5 : decode cX4_claim 5 = .ok (.astore_n 3, 1) := by decide +kernel
theorem dX4_claim_6 : decode cX4_claim 6 = .ok (.aload_n 3, 1) := by decide +kernel
theorem dX4_claim_7 : decode cX4_claim 7 = .ok (.ifnonnull 13, 3) := by decide +kernel
theorem dX4_claim_10 : decode cX4_claim 10 = .ok (.new 104, 3) := by decide +kernel
theorem dX4_claim_13 : decode cX4_claim 13 = .ok (.dup, 1) := by decide +kernel
theorem dX4_claim_14 : decode cX4_claim 14 = .ok (.ldc 106, 2) := by decide +kernel
theorem dX4_claim_16 : decode cX4_claim 16 = .ok (.invokespecial 108, 3) := by decide +kernel
theorem dX4_claim_19 : decode cX4_claim 19 = .ok (.athrow, 1) := by decide +kernel
theorem dX4_claim_20 : decode cX4_claim 20 = .ok (.iload_n 2, 1) := by decide +kernel
theorem dX4_claim_21 : decode cX4_claim 21 = .ok (.iconst 0, 1) := by decide +kernel
theorem dX4_claim_22 : decode cX4_claim 22 = .ok (.ldc 210, 2) := by decide +kernel
theorem dX4_claim_24 : decode cX4_claim 24 = .ok (.invokestatic 39, 3) := by decide +kernel
theorem dX4_claim_27 : decode cX4_claim 27 = .ok (.ifCond .ne 13, 3) := by decide +kernel
theorem dX4_claim_30 : decode cX4_claim 30 = .ok (.new 43, 3) := by decide +kernel
theorem dX4_claim_33 : decode cX4_claim 33 = .ok (.dup, 1) := by decide +kernel
theorem dX4_claim_34 : decode cX4_claim 34 = .ok (.ldc 211, 2) := by decide +kernel
theorem dX4_claim_36 : decode cX4_claim 36 = .ok (.invokespecial 47, 3) := by decide +kernel
theorem dX4_claim_39 : decode cX4_claim 39 = .ok (.athrow, 1) := by decide +kernel
theorem dX4_claim_40 : decode cX4_claim 40 = .ok (.aload_n 3, 1) := by decide +kernel
theorem dX4_claim_41 : decode cX4_claim 41 = .ok (.getfield 213, 3) := by decide +kernel
theorem dX4_claim_44 : decode cX4_claim 44 = .ok (.istore 4, 2) := by decide +kernel
theorem dX4_claim_46 : decode cX4_claim 46 = .ok (.aload_n 3, 1) := by decide +kernel
theorem dX4_claim_47 : decode cX4_claim 47 = .ok (.iload_n 2, 1) := by decide +kernel
theorem dX4_claim_48 : decode cX4_claim 48 = .ok (.putfield 213, 3) := by decide +kernel
theorem dX4_claim_51 : decode cX4_claim 51 = .ok (.iload 4, 2) := by decide +kernel
theorem dX4_claim_53 : decode cX4_claim 53 = .ok (.ireturn, 1) := by decide +kernel
set_option maxRecDepth 20000 in
theorem ggX4_difference_X4_isPrefix : GoodIn wsX4_difference wsX4_isPrefix := goodIn_r _ [6, 7, 8, 9, 5, 10] (by decide +kernel) (by decide +kernel)
set_option maxRecDepth 20000 in
theorem gX4_difference_X4_isPrefix : GoodIn wsX4_difference (va_wsS RX4 115 yX4_isPrefix wsX4_isPrefix) := goodIn_app (goodIn_of _ (by decide +kernel)) ggX4_difference_X4_isPrefix
set_option maxRecDepth 20000 in
theorem ggX4_difference_X4_differenceUnder : GoodIn wsX4_difference wsX4_differenceUnder := goodIn_r _ [14, 15, 16, 17, 18, 5, 19, 20, 21, 22, 23, 24, 25, 26, 27, 28, 29, 30, 31, 32, 33, 34, 35, 36, 37, 38, 39, 40, 41, 42, 43, 44, 45, 46, 47, 48, 49, 50] (by decide +kernel) (by decide +kernel)
set_option maxRecDepth 20000 in
theorem gX4_difference_X4_differenceUnder : GoodIn wsX4_difference (wsV RX4 216 RX4 yX4_differenceUnder wsX4_differenceUnder) := goodIn_app (goodIn_of _ (by decide +kernel)) ggX4_difference_X4_differenceUnder
theorem dX4_difference_0 : decode cX4_difference 0 = .ok (.iload_n 1, 1) := by decide +kernel
theorem dX4_difference_1 : decode cX4_difference 1 = .ok (.invokestatic 115, 3) := by decide +kernel
theorem dX4_difference_4 : decode cX4_difference 4 = .ok (.ifCond .ne 13, 3) := by decide +kernel
theorem dX4_difference_7 : decode cX4_difference 7 = .ok (.new 43, 3) := by decide +kernel
theorem dX4_difference_10 : decode cX4_difference 10 = .ok (.dup, 1) := by decide +kernel
theorem dX4_difference_11 : decode cX4_difference 11 = .ok (.ldc 164, 2) := by decide +kernel
theorem dX4_difference_13 : decode cX4_difference 13 = .ok (.invokespecial 47, 3) := by decide +kernel
theorem dX4_difference_16 : decode cX4_difference 16 = .ok (.athrow, 1) := by decide +kernel
theorem dX4_difference_17 : decode cX4_difference 17 = .ok (.aload_n 0, 1) := by decide +kernel
theorem dX4_difference_18 : decode cX4_difference 18 = .ok (.iload_n 1, 1) := by decide +kernel
theorem dX4_difference_19 : decode cX4_difference 19 = .ok (.invokevirtual 216, 3) := by decide +kernel
theorem dX4_difference_22 : decode cX4_difference 22 = .ok (.ireturn, 1) := by decide +kernel
set_option maxRecDepth 20000 in
theorem ggX4_narrow_X4_within : GoodIn wsX4_narrow wsX4_within := goodIn_r _ [6] (by decide +kernel) (by decide +kernel)
set_option maxRecDepth 20000 in
theorem gX4_narrow_X4_within : GoodIn wsX4_narrow (va_wsS RX4 39 yX4_within wsX4_within) := goodIn_app (goodIn_of _ (by decide +kernel)) ggX4_narrow_X4_within
set_option maxRecDepth 20000 in
theorem ggX4_narrow_X4_withWorstDigit : GoodIn wsX4_narrow wsX4_withWorstDigit := goodIn_r _ [10, 11, 12, 13, 14, 15, 16, 17, 5, 18, 19, 20, 21, 22, 23, 24, 25, 26, 27, 28, 29, 30, 31, 32, 33, 34, 35, 36, 37, 38, 39, 40, 41, 42, 43, 44, 45, 46, 47, 48, 49, 50, 51, 52, 53, 54] (by decide +kernel) (by decide +kernel)
set_option maxRecDepth 20000 in
theorem gX4_narrow_X4_withWorstDigit : GoodIn wsX4_narrow (wsV RX4 221 RX4 yX4_withWorstDigit wsX4_withWorstDigit) := goodIn_app (goodIn_of _ (by decide +kernel)) ggX4_narrow_X4_withWorstDigit
theorem dX4_narrow_0 : decode cX4_narrow 0 = .ok (.iload_n 1, 1) := by decide +kernel
theorem dX4_narrow_1 : decode cX4_narrow 1 = .ok (.iconst 1, 1) := by decide +kernel
theorem dX4_narrow_2 : decode cX4_narrow 2 = .ok (.iconst 5, 1) := by decide +kernel
theorem dX4_narrow_3 : decode cX4_narrow 3 = .ok (.invokestatic 39, 3) := by decide +kernel
theorem dX4_narrow_6 : decode cX4_narrow 6 = .ok (.ifCond .ne 13, 3) := by decide +kernel
theorem dX4_narrow_9 : decode cX4_narrow 9 = .ok (.new 43, 3) := by decide +kernel
theorem dX4_narrow_12 : decode cX4_narrow 12 = .ok (.dup, 1) := by decide +kernel
theorem dX4_narrow_13 : decode cX4_narrow 13 = .ok (.ldc 219, 2) := by decide +kernel
theorem dX4_narrow_15 : decode cX4_narrow 15 = .ok (.invokespecial 47, 3) := by decide +kernel
theorem dX4_narrow_18 : decode cX4_narrow 18 = .ok (.athrow, 1) := by decide +kernel
theorem dX4_narrow_19 : decode cX4_narrow 19 = .ok (.iconst 0, 1) := by decide +kernel
theorem dX4_narrow_20 : decode cX4_narrow 20 = .ok (.istore_n 2, 1) := by decide +kernel
theorem dX4_narrow_21 : decode cX4_narrow 21 = .ok (.iconst 0, 1) := by decide +kernel
theorem dX4_narrow_22 : decode cX4_narrow 22 = .ok (.istore_n 3, 1) := by decide +kernel
theorem dX4_narrow_23 : decode cX4_narrow 23 = .ok (.iload_n 3, 1) := by decide +kernel
theorem dX4_narrow_24 : decode cX4_narrow 24 = .ok (.iload_n 1, 1) := by decide +kernel
theorem dX4_narrow_25 : decode cX4_narrow 25 = .ok (.if_icmp .ge 15, 3) := by decide +kernel
theorem dX4_narrow_28 : decode cX4_narrow 28 = .ok (.aload_n 0, 1) := by decide +kernel
theorem dX4_narrow_29 : decode cX4_narrow 29 = .ok (.iload_n 2, 1) := by decide +kernel
theorem dX4_narrow_30 : decode cX4_narrow 30 = .ok (.invokevirtual 221, 3) := by decide +kernel
theorem dX4_narrow_33 : decode cX4_narrow 33 = .ok (.istore_n 2, 1) := by decide +kernel
theorem dX4_narrow_34 : decode cX4_narrow 34 = .ok (.iinc 3 1, 3) := by decide +kernel
theorem dX4_narrow_37 : decode cX4_narrow 37 = .ok (.goto (-14), 3) := by decide +kernel
theorem dX4_narrow_40 : decode cX4_narrow 40 = .ok (.iload_n 2, 1) := by decide +kernel
theorem dX4_narrow_41 : decode cX4_narrow 41 = .ok (.ireturn, 1) := by decide +kernel
set_option maxRecDepth 20000 in
theorem ggX4_worst_X0_disputed : GoodIn wsX4_worst wsX0_disputed := goodIn_r _ [13, 14, 15, 16, 17, 12, 18, 19, 20, 21, 22, 23, 32, 33, 34, 35, 36, 37, 38, 39] (by decide +kernel) (by decide +kernel)
set_option maxRecDepth 20000 in
theorem gX4_worst_X0_disputed : GoodIn wsX4_worst (wsV RX4 224 RX0 yX0_disputed wsX0_disputed) := goodIn_app (goodIn_of _ (by decide +kernel)) ggX4_worst_X0_disputed
theorem dX4_worst_0 : decode cX4_worst 0 = .ok (.aconst_null, 1) := by decide +kernel
theorem dX4_worst_1 : decode cX4_worst 1 = .ok (.astore_n 1, 1) := by decide +kernel
theorem dX4_worst_2 : decode cX4_worst 2 = .ok (.aload_n 0, 1) := by decide +kernel
theorem dX4_worst_3 : decode cX4_worst 3 = .ok (.getfield 17, 3) := by decide +kernel
theorem dX4_worst_6 : decode cX4_worst 6 = .ok (.astore_n 2, 1) := by decide +kernel
theorem dX4_worst_7 : decode cX4_worst 7 = .ok (.aload_n 2, 1) := by decide +kernel
theorem dX4_worst_8 : decode cX4_worst 8 = .ok (.arraylength, 1) := by decide +kernel
theorem dX4_worst_9 : decode cX4_worst 9 = .ok (.istore_n 3, 1) := by decide +kernel
theorem dX4_worst_10 : decode cX4_worst 10 = .ok (.iconst 0, 1) := by decide +kernel
theorem dX4_worst_11 : decode cX4_worst 11 = .ok (.istore 4, 2) := by decide +kernel
theorem dX4_worst_13 : decode cX4_worst 13 = .ok (.iload 4, 2) := by decide +kernel
theorem dX4_worst_15 : decode cX4_worst 15 = .ok (.iload_n 3, 1) := by decide +kernel
theorem dX4_worst_16 : decode cX4_worst 16 = .ok (.if_icmp .ge 45, 3) := by decide +kernel
theorem dX4_worst_19 : decode cX4_worst 19 = .ok (.aload_n 2, 1) := by decide +kernel
theorem dX4_worst_20 : decode cX4_worst 20 = .ok (.iload 4, 2) := by decide +kernel
theorem dX4_worst_22 : decode cX4_worst 22 = .ok (.aaload, 1) := by decide +kernel
theorem dX4_worst_23 : decode cX4_worst 23 = .ok (.astore 5, 2) := by decide +kernel
theorem dX4_worst_25 : decode cX4_worst 25 = .ok (.aload 5, 2) := by decide +kernel
theorem dX4_worst_27 : decode cX4_worst 27 = .ok (.ifnull 28, 3) := by decide +kernel
theorem dX4_worst_30 : decode cX4_worst 30 = .ok (.aload_n 1, 1) := by decide +kernel
theorem dX4_worst_31 : decode cX4_worst 31 = .ok (.ifnull 21, 3) := by decide +kernel
theorem dX4_worst_34 : decode cX4_worst 34 = .ok (.aload 5, 2) := by decide +kernel
theorem dX4_worst_36 : decode cX4_worst 36 = .ok (.invokevirtual 224, 3) := by decide +kernel
theorem dX4_worst_39 : decode cX4_worst 39 = .ok (.invokestatic 227, 3) := by decide +kernel
theorem dX4_worst_42 : decode cX4_worst 42 = .ok (.aload_n 1, 1) := by decide +kernel
theorem dX4_worst_43 : decode cX4_worst 43 = .ok (.invokevirtual 224, 3) := by decide +kernel
theorem dX4_worst_46 : decode cX4_worst 46 = .ok (.invokestatic 227, 3) := by decide +kernel
theorem dX4_worst_49 : decode cX4_worst 49 = .ok (.if_icmp .le 6, 3) := by decide +kernel
theorem dX4_worst_52 : decode cX4_worst 52 = .ok (.aload 5, 2) := by decide +kernel
theorem dX4_worst_54 : decode cX4_worst 54 = .ok (.astore_n 1, 1) := by decide +kernel
theorem dX4_worst_55 : decode cX4_worst 55 = .ok (.iinc 4 1, 3) := by decide +kernel
theorem dX4_worst_58 : decode cX4_worst 58 = .ok (.goto (-45), 3) := by decide +kernel
theorem dX4_worst_61 : decode cX4_worst 61 = .ok (.aload_n 1, 1) := by decide +kernel
theorem dX4_worst_62 : decode cX4_worst 62 = .ok (.ifnonnull 13, 3) := by decide +kernel
theorem dX4_worst_65 : decode cX4_worst 65 = .ok (.new 137, 3) := by decide +kernel
theorem dX4_worst_68 : decode cX4_worst 68 = .ok (.dup, 1) := by decide +kernel
theorem dX4_worst_69 : decode cX4_worst 69 = .ok (.ldc 232, 2) := by decide +kernel
theorem dX4_worst_71 : decode cX4_worst 71 = .ok (.invokespecial 141, 3) := by decide +kernel
theorem dX4_worst_74 : decode cX4_worst 74 = .ok (.athrow, 1) := by decide +kernel
theorem dX4_worst_75 : decode cX4_worst 75 = .ok (.aload_n 1, 1) := by decide +kernel
theorem dX4_worst_76 : decode cX4_worst 76 = .ok (.getfield 88, 3) := by decide +kernel
theorem dX4_worst_79 : decode cX4_worst 79 = .ok (.ireturn, 1) := by decide +kernel
theorem dX4_within_0 : decode cX4_within 0 = .ok (.iload_n 0, 1) := by decide +kernel
theorem dX4_within_1 : decode cX4_within 1 = .ok (.iload_n 1, 1) := by decide +kernel
theorem dX4_within_2 : decode cX4_within 2 = .ok (.if_icmp .lt 12, 3) := by decide +kernel
theorem dX4_within_5 : decode cX4_within 5 = .ok (.iload_n 0, 1) := by decide +kernel
theorem dX4_within_6 : decode cX4_within 6 = .ok (.iload_n 2, 1) := by decide +kernel
theorem dX4_within_7 : decode cX4_within 7 = .ok (.if_icmp .gt 7, 3) := by decide +kernel
theorem dX4_within_10 : decode cX4_within 10 = .ok (.iconst 1, 1) := by decide +kernel
theorem dX4_within_11 : decode cX4_within 11 = .ok (.goto 4, 3) := by decide +kernel
theorem dX4_within_14 : decode cX4_within 14 = .ok (.iconst 0, 1) := by decide +kernel
theorem dX4_within_15 : decode cX4_within 15 = .ok (.ireturn, 1) := by decide +kernel
set_option maxRecDepth 20000 in
theorem ggX4_isNumber_X4_within : GoodIn wsX4_isNumber wsX4_within := goodIn_r _ [5] (by decide +kernel) (by decide +kernel)
set_option maxRecDepth 20000 in
theorem gX4_isNumber_X4_within : GoodIn wsX4_isNumber (va_wsS RX4 39 yX4_within wsX4_within) := goodIn_app (goodIn_of _ (by decide +kernel)) ggX4_isNumber_X4_within
theorem dX4_isNumber_0 : decode cX4_isNumber 0 = .ok (.iload_n 0, 1) := by decide +kernel
theorem dX4_isNumber_1 : decode cX4_isNumber 1 = .ok (.sipush 1000, 3) := by decide +kernel
theorem dX4_isNumber_4 : decode cX4_isNumber 4 = .ok (.ldc 234, 2) := by decide +kernel
theorem dX4_isNumber_6 : decode cX4_isNumber 6 = .ok (.invokestatic 39, 3) := by decide +kernel
theorem dX4_isNumber_9 : decode cX4_isNumber 9 = .ok (.ireturn, 1) := by decide +kernel
set_option maxRecDepth 20000 in
theorem ggX4_isPrefix_X4_within : GoodIn wsX4_isPrefix wsX4_within := goodIn_r _ [5] (by decide +kernel) (by decide +kernel)
set_option maxRecDepth 20000 in
theorem gX4_isPrefix_X4_within : GoodIn wsX4_isPrefix (va_wsS RX4 39 yX4_within wsX4_within) := goodIn_app (goodIn_of _ (by decide +kernel)) ggX4_isPrefix_X4_within
theorem dX4_isPrefix_0 : decode cX4_isPrefix 0 = .ok (.iload_n 0, 1) := by decide +kernel
theorem dX4_isPrefix_1 : decode cX4_isPrefix 1 = .ok (.iconst 1, 1) := by decide +kernel
theorem dX4_isPrefix_2 : decode cX4_isPrefix 2 = .ok (.ldc 235, 2) := by decide +kernel
theorem dX4_isPrefix_4 : decode cX4_isPrefix 4 = .ok (.invokestatic 39, 3) := by decide +kernel
theorem dX4_isPrefix_7 : decode cX4_isPrefix 7 = .ok (.ireturn, 1) := by decide +kernel
set_option maxRecDepth 20000 in
theorem ggX4_isDay_X4_within : GoodIn wsX4_isDay wsX4_within := goodIn_r _ [4] (by decide +kernel) (by decide +kernel)
set_option maxRecDepth 20000 in
theorem gX4_isDay_X4_within : GoodIn wsX4_isDay (va_wsS RX4 39 yX4_within wsX4_within) := goodIn_app (goodIn_of _ (by decide +kernel)) ggX4_isDay_X4_within
theorem dX4_isDay_0 : decode cX4_isDay 0 = .ok (.iload_n 0, 1) := by decide +kernel
theorem dX4_isDay_1 : decode cX4_isDay 1 = .ok (.iconst 0, 1) := by decide +kernel
theorem dX4_isDay_2 : decode cX4_isDay 2 = .ok (.sipush 999, 3) := by decide +kernel
theorem dX4_isDay_5 : decode cX4_isDay 5 = .ok (.invokestatic 39, 3) := by decide +kernel
theorem dX4_isDay_8 : decode cX4_isDay 8 = .ok (.ireturn, 1) := by decide +kernel
theorem dX4_fits_0 : decode cX4_fits 0 = .ok (.iload_n 1, 1) := by decide +kernel
theorem dX4_fits_1 : decode cX4_fits 1 = .ok (.istore_n 2, 1) := by decide +kernel
theorem dX4_fits_2 : decode cX4_fits 2 = .ok (.iconst 0, 1) := by decide +kernel
theorem dX4_fits_3 : decode cX4_fits 3 = .ok (.istore_n 3, 1) := by decide +kernel
theorem dX4_fits_4 : decode cX4_fits 4 = .ok (.iload_n 3, 1) := by decide +kernel
theorem dX4_fits_5 : decode cX4_fits 5 = .ok (.bipush 8, 2) := by decide +kernel
theorem dX4_fits_7 : decode cX4_fits 7 = .ok (.if_icmp .ge 19, 3) := by decide +kernel
theorem dX4_fits_10 : decode cX4_fits 10 = .ok (.iload_n 2, 1) := by decide +kernel
theorem dX4_fits_11 : decode cX4_fits 11 = .ok (.iload_n 0, 1) := by decide +kernel
theorem dX4_fits_12 : decode cX4_fits 12 = .ok (.if_icmp .le 14, 3) := by decide +kernel
theorem dX4_fits_15 : decode cX4_fits 15 = .ok (.iload_n 2, 1) := by decide +kernel
theorem dX4_fits_16 : decode cX4_fits 16 = .ok (.bipush 10, 2) := by decide +kernel
theorem dX4_fits_18 : decode cX4_fits 18 = .ok (.idiv, 1) := by decide +kernel
theorem dX4_fits_19 : decode cX4_fits 19 = .ok (.istore_n 2, 1) := by decide +kernel
theorem dX4_fits_20 : decode cX4_fits 20 = .ok (.iinc 3 1, 3) := by decide +kernel
theorem dX4_fits_23 : decode cX4_fits 23 = .ok (.goto (-19), 3) := by decide +kernel
theorem dX4_fits_26 : decode cX4_fits 26 = .ok (.iload_n 2, 1) := by decide +kernel
theorem dX4_fits_27 : decode cX4_fits 27 = .ok (.iload_n 0, 1) := by decide +kernel
theorem dX4_fits_28 : decode cX4_fits 28 = .ok (.if_icmp .ne 7, 3) := by decide +kernel
theorem dX4_fits_31 : decode cX4_fits 31 = .ok (.iconst 1, 1) := by decide +kernel
theorem dX4_fits_32 : decode cX4_fits 32 = .ok (.goto 4, 3) := by decide +kernel
theorem dX4_fits_35 : decode cX4_fits 35 = .ok (.iconst 0, 1) := by decide +kernel
theorem dX4_fits_36 : decode cX4_fits 36 = .ok (.ireturn, 1) := by decide +kernel
theorem dX4_sourceAt_0 : decode cX4_sourceAt 0 = .ok (.iload_n 1, 1) := by decide +kernel
theorem dX4_sourceAt_1 : decode cX4_sourceAt 1 = .ok (.ifCond .lt 21, 3) := by decide +kernel
theorem dX4_sourceAt_4 : decode cX4_sourceAt 4 = .ok (.iload_n 1, 1) := by decide +kernel
theorem dX4_sourceAt_5 : decode cX4_sourceAt 5 = .ok (.aload_n 0, 1) := by decide +kernel
theorem dX4_sourceAt_6 : decode cX4_sourceAt 6 = .ok (.getfield 11, 3) := by decide +kernel
theorem dX4_sourceAt_9 : decode cX4_sourceAt 9 = .ok (.arraylength, 1) := by decide +kernel
theorem dX4_sourceAt_10 : decode cX4_sourceAt 10 = .ok (.if_icmp .ge 12, 3) := by decide +kernel
theorem dX4_sourceAt_13 : decode cX4_sourceAt 13 = .ok (.aload_n 0, 1) := by decide +kernel
theorem dX4_sourceAt_14 : decode cX4_sourceAt 14 = .ok (.getfield 11, 3) := by decide +kernel
theorem dX4_sourceAt_17 : decode cX4_sourceAt 17 = .ok (.iload_n 1, 1) := by decide +kernel
theorem dX4_sourceAt_18 : decode cX4_sourceAt 18 = .ok (.aaload, 1) := by decide +kernel
theorem dX4_sourceAt_19 : decode cX4_sourceAt 19 = .ok (.goto 4, 3) := by decide +kernel
theorem dX4_sourceAt_22 : decode cX4_sourceAt 22 = .ok (.aconst_null, 1) := by decide +kernel
theorem dX4_sourceAt_23 : decode cX4_sourceAt 23 = .ok (.areturn, 1) := by decide +kernel
theorem dX4_callAt_0 : decode cX4_callAt 0 = .ok (.iload_n 1, 1) := by decide +kernel
theorem dX4_callAt_1 : decode cX4_callAt 1 = .ok (.ifCond .lt 21, 3) := by decide +kernel
theorem dX4_callAt_4 : decode cX4_callAt 4 = .ok (.iload_n 1, 1) := by decide +kernel
theorem dX4_callAt_5 : decode cX4_callAt 5 = .ok (.aload_n 0, 1) := by decide +kernel
theorem dX4_callAt_6 : decode cX4_callAt 6 = .ok (.getfield 17, 3) := by decide +kernel
theorem dX4_callAt_9 : decode cX4_callAt 9 = .ok (.arraylength, 1) := by decide +kernel
theorem dX4_callAt_10 : decode cX4_callAt 10 = .ok (.if_icmp .ge 12, 3) := by decide +kernel
theorem dX4_callAt_13 : decode cX4_callAt 13 = .ok (.aload_n 0, 1) := by decide +kernel
theorem dX4_callAt_14 : decode cX4_callAt 14 = .ok (.getfield 17, 3) := by decide +kernel
theorem dX4_callAt_17 : decode cX4_callAt 17 = .ok (.iload_n 1, 1) := by decide +kernel
theorem dX4_callAt_18 : decode cX4_callAt 18 = .ok (.aaload, 1) := by decide +kernel
theorem dX4_callAt_19 : decode cX4_callAt 19 = .ok (.goto 4, 3) := by decide +kernel
theorem dX4_callAt_22 : decode cX4_callAt 22 = .ok (.aconst_null, 1) := by decide +kernel
theorem dX4_callAt_23 : decode cX4_callAt 23 = .ok (.areturn, 1) := by decide +kernel
theorem dX4_carrierAt_0 : decode cX4_carrierAt 0 = .ok (.iload_n 1, 1) := by decide +kernel
theorem dX4_carrierAt_1 : decode cX4_carrierAt 1 = .ok (.ifCond .lt 21, 3) := by decide +kernel
theorem dX4_carrierAt_4 : decode cX4_carrierAt 4 = .ok (.iload_n 1, 1) := by decide +kernel
theorem dX4_carrierAt_5 : decode cX4_carrierAt 5 = .ok (.aload_n 0, 1) := by decide +kernel
theorem dX4_carrierAt_6 : decode cX4_carrierAt 6 = .ok (.getfield 33, 3) := by decide +kernel
theorem dX4_carrierAt_9 : decode cX4_carrierAt 9 = .ok (.arraylength, 1) := by decide +kernel
theorem dX4_carrierAt_10 : decode cX4_carrierAt 10 = .ok (.if_icmp .ge 12, 3) := by decide +kernel
theorem dX4_carrierAt_13 : decode cX4_carrierAt 13 = .ok (.aload_n 0, 1) := by decide +kernel
theorem dX4_carrierAt_14 : decode cX4_carrierAt 14 = .ok (.getfield 33, 3) := by decide +kernel
theorem dX4_carrierAt_17 : decode cX4_carrierAt 17 = .ok (.iload_n 1, 1) := by decide +kernel
theorem dX4_carrierAt_18 : decode cX4_carrierAt 18 = .ok (.aaload, 1) := by decide +kernel
theorem dX4_carrierAt_19 : decode cX4_carrierAt 19 = .ok (.goto 4, 3) := by decide +kernel
theorem dX4_carrierAt_22 : decode cX4_carrierAt 22 = .ok (.aconst_null, 1) := by decide +kernel
theorem dX4_carrierAt_23 : decode cX4_carrierAt 23 = .ok (.areturn, 1) := by decide +kernel
set_option maxRecDepth 20000 in
theorem ggX4_callJoinedBy_X0_hasLegFrom : GoodIn wsX4_callJoinedBy wsX0_hasLegFrom := goodIn_r _ [8, 9, 28, 29, 30, 31, 32, 33, 34, 35] (by decide +kernel) (by decide +kernel)
set_option maxRecDepth 20000 in
theorem gX4_callJoinedBy_X0_hasLegFrom : GoodIn wsX4_callJoinedBy (wsV RX4 236 RX0 yX0_hasLegFrom wsX0_hasLegFrom) := goodIn_app (goodIn_of _ (by decide +kernel)) ggX4_callJoinedBy_X0_hasLegFrom
set_option maxRecDepth 20000 in
theorem ggX4_callJoinedBy_X0_beganWithin : GoodIn wsX4_callJoinedBy wsX0_beganWithin := goodIn_r _ [13, 14, 15, 16, 17, 18, 19, 28, 29, 30, 31, 32, 33, 34, 35] (by decide +kernel) (by decide +kernel)
set_option maxRecDepth 20000 in
theorem gX4_callJoinedBy_X0_beganWithin : GoodIn wsX4_callJoinedBy (wsV RX4 239 RX0 yX0_beganWithin wsX0_beganWithin) := goodIn_app (goodIn_of _ (by decide +kernel)) ggX4_callJoinedBy_X0_beganWithin
theorem dX4_callJoinedBy_0 : decode cX4_callJoinedBy 0 = .ok (.aload_n 0, 1) := by decide +kernel
theorem dX4_callJoinedBy_1 : decode cX4_callJoinedBy 1 = .ok (.getfield 17, 3) := by decide +kernel
theorem dX4_callJoinedBy_4 : decode cX4_callJoinedBy 4 = .ok (.astore 5, 2) := by decide +kernel
theorem dX4_callJoinedBy_6 : decode cX4_callJoinedBy 6 = .ok (.aload 5, 2) := by decide +kernel
theorem dX4_callJoinedBy_8 : decode cX4_callJoinedBy 8 = .ok (.arraylength, 1) := by decide +kernel
theorem dX4_callJoinedBy_9 : decode cX4_callJoinedBy 9 = .ok (.istore 6, 2) := by decide +kernel
theorem dX4_callJoinedBy_11 : decode cX4_callJoinedBy 11 = .ok (.iconst 0, 1) := by decide +kernel
theorem dX4_callJoinedBy_12 : decode cX4_callJoinedBy 12 = .ok (.istore 7, 2) := by decide +kernel
theorem dX4_callJoinedBy_14 : decode cX4_callJoinedBy 14 = .ok (.iload 7, 2) := by decide +kernel
theorem dX4_callJoinedBy_16 : decode cX4_callJoinedBy 16 = .ok (.iload 6, 2) := by decide +kernel
theorem dX4_callJoinedBy_18 : decode cX4_callJoinedBy 18 = .ok (.if_icmp .ge 57, 3) := by decide +kernel
theorem dX4_callJoinedBy_21 : decode cX4_callJoinedBy 21 = .ok (.aload 5, 2) := by decide +kernel
theorem dX4_callJoinedBy_23 : decode cX4_callJoinedBy 23 = .ok (.iload 7, 2) := by decide +kernel
theorem dX4_callJoinedBy_25 : decode cX4_callJoinedBy 25 = .ok (.aaload, 1) := by decide +kernel
theorem dX4_callJoinedBy_26 : decode cX4_callJoinedBy 26 = .ok (.astore 8, 2) := by decide +kernel
theorem dX4_callJoinedBy_28 : decode cX4_callJoinedBy 28 = .ok (.aload 8, 2) := by decide +kernel
theorem dX4_callJoinedBy_30 : decode cX4_callJoinedBy 30 = .ok (.ifnull 39, 3) := by decide +kernel
theorem dX4_callJoinedBy_33 : decode cX4_callJoinedBy 33 = .ok (.aload 8, 2) := by decide +kernel
theorem dX4_callJoinedBy_35 : decode cX4_callJoinedBy 35 = .ok (.getfield 166, 3) := by decide +kernel
theorem dX4_callJoinedBy_38 : decode cX4_callJoinedBy 38 = .ok (.iload_n 2, 1) := by decide +kernel
theorem dX4_callJoinedBy_39 : decode cX4_callJoinedBy 39 = .ok (.if_icmp .ne 30, 3) := by decide +kernel
theorem dX4_callJoinedBy_42 : decode cX4_callJoinedBy 42 = .ok (.aload 8, 2) := by decide +kernel
theorem dX4_callJoinedBy_44 : decode cX4_callJoinedBy 44 = .ok (.iload_n 1, 1) := by decide +kernel
theorem dX4_callJoinedBy_45 : decode cX4_callJoinedBy 45 = .ok (.invokevirtual 236, 3) := by decide +kernel
theorem dX4_callJoinedBy_48 : decode cX4_callJoinedBy 48 = .ok (.ifCond .ne 21, 3) := by decide +kernel
theorem dX4_callJoinedBy_51 : decode cX4_callJoinedBy 51 = .ok (.aload 8, 2) := by decide +kernel
theorem dX4_callJoinedBy_53 : decode cX4_callJoinedBy 53 = .ok (.aload_n 0, 1) := by decide +kernel
theorem dX4_callJoinedBy_54 : decode cX4_callJoinedBy 54 = .ok (.getfield 21, 3) := by decide +kernel
theorem dX4_callJoinedBy_57 : decode cX4_callJoinedBy 57 = .ok (.iload_n 3, 1) := by decide +kernel
theorem dX4_callJoinedBy_58 : decode cX4_callJoinedBy 58 = .ok (.iload 4, 2) := by decide +kernel
theorem dX4_callJoinedBy_60 : decode cX4_callJoinedBy 60 = .ok (.invokevirtual 239, 3) := by decide +kernel
theorem dX4_callJoinedBy_63 : decode cX4_callJoinedBy 63 = .ok (.ifCond .eq 6, 3) := by decide +kernel
theorem dX4_callJoinedBy_66 : decode cX4_callJoinedBy 66 = .ok (.aload 8, 2) := by decide +kernel
theorem dX4_callJoinedBy_68 : decode cX4_callJoinedBy 68 = .ok (.areturn, 1) := by decide +kernel
theorem dX4_callJoinedBy_69 : decode cX4_callJoinedBy 69 = .ok (.iinc 7 1, 3) := by decide +kernel
theorem dX4_callJoinedBy_72 : decode cX4_callJoinedBy 72 = .ok (.goto (-58), 3) := by decide +kernel
theorem dX4_callJoinedBy_75 : decode cX4_callJoinedBy 75 = .ok (.aconst_null, 1) := by decide +kernel
theorem dX4_callJoinedBy_76 : decode cX4_callJoinedBy 76 = .ok (.areturn, 1) := by decide +kernel
set_option maxRecDepth 20000 in
theorem ggX4_newCall_X0_init : GoodIn wsX4_newCall wsX0_init := goodIn_r _ [8, 9, 10, 11, 12, 13, 14, 15, 16, 25, 26, 27, 28, 29, 30, 31, 32] (by decide +kernel) (by decide +kernel)
set_option maxRecDepth 20000 in
theorem gX4_newCall_X0_init : GoodIn wsX4_newCall (wsX0_init) := ggX4_newCall_X0_init
theorem dX4_newCall_0 : decode cX4_newCall 0 = .ok (.aload_n 0, 1) := by decide +kernel
theorem dX4_newCall_1 : decode cX4_newCall 1 = .ok (.getfield 97, 3) := by decide +kernel
theorem dX4_newCall_4 : decode cX4_newCall 4 = .ok (.istore 4, 2) := by decide +kernel
theorem dX4_newCall_6 : decode cX4_newCall 6 = .ok (.iload 4, 2) := by decide +kernel
theorem dX4_newCall_8 : decode cX4_newCall 8 = .ok (.aload_n 0, 1) := by decide +kernel
theorem dX4_newCall_9 : decode cX4_newCall 9 = .ok (.getfield 17, 3) := by decide +kernel
theorem dX4_newCall_12 : decode cX4_newCall 12 = .ok (.arraylength, 1) := by decide +kernel
theorem dX4_newCall_13 : decode cX4_newCall 13 = .ok (.if_icmp .lt 5, 3) := by decide +kernel
theorem dX4_newCall_16 : decode cX4_newCall 16 = .ok (.aconst_null, 1) := by decide +kernel
theorem dX4_newCall_17 : decode cX4_newCall 17 = .ok (.areturn, 1) := by decide +kernel
theorem dX4_newCall_18 : decode cX4_newCall 18 = .ok (.new 15, 3) := by decide +kernel
theorem dX4_newCall_21 : decode cX4_newCall 21 = .ok (.dup, 1) := by decide +kernel
theorem dX4_newCall_22 : decode cX4_newCall 22 = .ok (.iload 4, 2) := by decide +kernel
theorem dX4_newCall_24 : decode cX4_newCall 24 = .ok (.iload_n 1, 1) := by decide +kernel
theorem dX4_newCall_25 : decode cX4_newCall 25 = .ok (.iload_n 2, 1) := by decide +kernel
theorem dX4_newCall_26 : decode cX4_newCall 26 = .ok (.iload_n 3, 1) := by decide +kernel
theorem dX4_newCall_27 : decode cX4_newCall 27 = .ok (.invokespecial 242, 3) := by decide +kernel
theorem dX4_newCall_30 : decode cX4_newCall 30 = .ok (.astore 5, 2) := by decide +kernel
theorem dX4_newCall_32 : decode cX4_newCall 32 = .ok (.aload_n 0, 1) := by decide +kernel
theorem dX4_newCall_33 : decode cX4_newCall 33 = .ok (.getfield 17, 3) := by decide +kernel
theorem dX4_newCall_36 : decode cX4_newCall 36 = .ok (.iload 4, 2) := by decide +kernel
theorem dX4_newCall_38 : decode cX4_newCall 38 = .ok (.aload 5, 2) := by decide +kernel
theorem dX4_newCall_40 : decode cX4_newCall 40 = .ok (.aastore, 1) := by decide +kernel
theorem dX4_newCall_41 : decode cX4_newCall 41 = .ok (.aload_n 0, 1) := by decide +kernel
theorem dX4_newCall_42 : decode cX4_newCall 42 = .ok (.dup, 1) := by decide +kernel
theorem dX4_newCall_43 : decode cX4_newCall 43 = .ok (.getfield 97, 3) := by decide +kernel
theorem dX4_newCall_46 : decode cX4_newCall 46 = .ok (.iconst 1, 1) := by decide +kernel
theorem dX4_newCall_47 : decode cX4_newCall 47 = .ok (.iadd, 1) := by decide +kernel
theorem dX4_newCall_48 : decode cX4_newCall 48 = .ok (.putfield 97, 3) := by decide +kernel
theorem dX4_newCall_51 : decode cX4_newCall 51 = .ok (.aload 5, 2) := by decide +kernel
theorem dX4_newCall_53 : decode cX4_newCall 53 = .ok (.areturn, 1) := by decide +kernel
set_option maxRecDepth 20000 in
theorem ggX4_rateInForce_X4_fits : GoodIn wsX4_rateInForce wsX4_fits := goodIn_r _ [7] (by decide +kernel) (by decide +kernel)
set_option maxRecDepth 20000 in
theorem gX4_rateInForce_X4_fits : GoodIn wsX4_rateInForce (va_wsS RX4 169 yX4_fits wsX4_fits) := goodIn_app (goodIn_of _ (by decide +kernel)) ggX4_rateInForce_X4_fits
set_option maxRecDepth 20000 in
theorem ggX4_rateInForce_X2_goesBefore : GoodIn wsX4_rateInForce wsX2_goesBefore := goodIn_r _ [12, 13, 14, 15, 24, 25, 26, 27, 28, 29, 30] (by decide +kernel) (by decide +kernel)
set_option maxRecDepth 20000 in
theorem gX4_rateInForce_X2_goesBefore : GoodIn wsX4_rateInForce (wsV RX4 251 RX2 yX2_goesBefore wsX2_goesBefore) := goodIn_app (goodIn_of _ (by decide +kernel)) ggX4_rateInForce_X2_goesBefore
theorem dX4_rateInForce_0 : decode cX4_rateInForce 0 = .ok (.aconst_null, 1) := by decide +kernel
theorem dX4_rateInForce_1 : decode cX4_rateInForce 1 = .ok (.astore_n 3, 1) := by decide +kernel
theorem dX4_rateInForce_2 : decode cX4_rateInForce 2 = .ok (.aload_n 0, 1) := by decide +kernel
theorem dX4_rateInForce_3 : decode cX4_rateInForce 3 = .ok (.getfield 27, 3) := by decide +kernel
theorem dX4_rateInForce_6 : decode cX4_rateInForce 6 = .ok (.astore 4, 2) := by decide +kernel
theorem dX4_rateInForce_8 : decode cX4_rateInForce 8 = .ok (.aload 4, 2) := by decide +kernel
theorem dX4_rateInForce_10 : decode cX4_rateInForce 10 = .ok (.arraylength, 1) := by decide +kernel
theorem dX4_rateInForce_11 : decode cX4_rateInForce 11 = .ok (.istore 5, 2) := by decide +kernel
theorem dX4_rateInForce_13 : decode cX4_rateInForce 13 = .ok (.iconst 0, 1) := by decide +kernel
theorem dX4_rateInForce_14 : decode cX4_rateInForce 14 = .ok (.istore 6, 2) := by decide +kernel
theorem dX4_rateInForce_16 : decode cX4_rateInForce 16 = .ok (.iload 6, 2) := by decide +kernel
theorem dX4_rateInForce_18 : decode cX4_rateInForce 18 = .ok (.iload 5, 2) := by decide +kernel
theorem dX4_rateInForce_20 : decode cX4_rateInForce 20 = .ok (.if_icmp .ge 58, 3) := by decide +kernel
theorem dX4_rateInForce_23 : decode cX4_rateInForce 23 = .ok (.aload 4, 2) := by decide +kernel
theorem dX4_rateInForce_25 : decode cX4_rateInForce 25 = .ok (.iload 6, 2) := by decide +kernel
theorem dX4_rateInForce_27 : decode cX4_rateInForce 27 = .ok (.aaload, 1) := by decide +kernel
theorem dX4_rateInForce_28 : decode cX4_rateInForce 28 = .ok (.astore 7, 2) := by decide +kernel
theorem dX4_rateInForce_30 : decode cX4_rateInForce 30 = .ok (.aload 7, 2) := by decide +kernel
theorem dX4_rateInForce_32 : decode cX4_rateInForce 32 = .ok (.ifnull 40, 3) := by decide +kernel
theorem dX4_rateInForce_35 : decode cX4_rateInForce 35 = .ok (.aload 7, 2) := by decide +kernel
theorem dX4_rateInForce_37 : decode cX4_rateInForce 37 = .ok (.getfield 245, 3) := by decide +kernel
theorem dX4_rateInForce_40 : decode cX4_rateInForce 40 = .ok (.iload_n 2, 1) := by decide +kernel
theorem dX4_rateInForce_41 : decode cX4_rateInForce 41 = .ok (.if_icmp .gt 31, 3) := by decide +kernel
theorem dX4_rateInForce_44 : decode cX4_rateInForce 44 = .ok (.aload 7, 2) := by decide +kernel
theorem dX4_rateInForce_46 : decode cX4_rateInForce 46 = .ok (.getfield 248, 3) := by decide +kernel
theorem dX4_rateInForce_49 : decode cX4_rateInForce 49 = .ok (.iload_n 1, 1) := by decide +kernel
theorem dX4_rateInForce_50 : decode cX4_rateInForce 50 = .ok (.invokestatic 169, 3) := by decide +kernel
theorem dX4_rateInForce_53 : decode cX4_rateInForce 53 = .ok (.ifCond .eq 19, 3) := by decide +kernel
theorem dX4_rateInForce_56 : decode cX4_rateInForce 56 = .ok (.aload_n 3, 1) := by decide +kernel
theorem dX4_rateInForce_57 : decode cX4_rateInForce 57 = .ok (.ifnull 12, 3) := by decide +kernel
theorem dX4_rateInForce_60 : decode cX4_rateInForce 60 = .ok (.aload 7, 2) := by decide +kernel
theorem dX4_rateInForce_62 : decode cX4_rateInForce 62 = .ok (.aload_n 3, 1) := by decide +kernel
theorem dX4_rateInForce_63 : decode cX4_rateInForce 63 = .ok (.invokevirtual 251, 3) := by decide +kernel
theorem dX4_rateInForce_66 : decode cX4_rateInForce 66 = .ok (.ifCond .eq 6, 3) := by decide +kernel
theorem dX4_rateInForce_69 : decode cX4_rateInForce 69 = .ok (.aload 7, 2) := by decide +kernel
theorem dX4_rateInForce_71 : decode cX4_rateInForce 71 = .ok (.astore_n 3, 1) := by decide +kernel
theorem dX4_rateInForce_72 : decode cX4_rateInForce 72 = .ok (.iinc 6 1, 3) := by decide +kernel
theorem dX4_rateInForce_75 : decode cX4_rateInForce 75 = .ok (.goto (-59), 3) := by decide +kernel
theorem dX4_rateInForce_78 : decode cX4_rateInForce 78 = .ok (.aload_n 3, 1) := by decide +kernel
theorem dX4_rateInForce_79 : decode cX4_rateInForce 79 = .ok (.areturn, 1) := by decide +kernel
set_option maxRecDepth 20000 in
theorem ggX4_chargeNow_X0_day : GoodIn wsX4_chargeNow wsX0_day := goodIn_r _ [7, 8, 43, 44, 45, 46, 47, 48, 49, 50] (by decide +kernel) (by decide +kernel)
set_option maxRecDepth 20000 in
theorem gX4_chargeNow_X0_day : GoodIn wsX4_chargeNow (wsV RX4 255 RX0 yX0_day wsX0_day) := goodIn_app (goodIn_of _ (by decide +kernel)) ggX4_chargeNow_X0_day
set_option maxRecDepth 20000 in
theorem ggX4_chargeNow_X4_rateInForce : GoodIn wsX4_chargeNow wsX4_rateInForce := goodIn_r _ [13, 14, 15, 16, 17, 18, 12, 19, 20, 21, 22, 23, 24, 25, 26, 27, 51, 52, 53, 54, 55, 56, 57, 58, 59, 60, 61, 62, 63, 64, 65] (by decide +kernel) (by decide +kernel)
set_option maxRecDepth 20000 in
theorem gX4_chargeNow_X4_rateInForce : GoodIn wsX4_chargeNow (wsV RX4 133 RX4 yX4_rateInForce wsX4_rateInForce) := goodIn_app (goodIn_of _ (by decide +kernel)) ggX4_chargeNow_X4_rateInForce
set_option maxRecDepth 20000 in
theorem ggX4_chargeNow_X2_chargeFor : GoodIn wsX4_chargeNow wsX2_chargeFor := goodIn_r _ [31, 32, 33, 34, 35, 36, 37, 38, 39, 40, 41, 23, 42, 59, 60, 61, 62, 63, 64, 65] (by decide +kernel) (by decide +kernel)
set_option maxRecDepth 20000 in
theorem gX4_chargeNow_X2_chargeFor : GoodIn wsX4_chargeNow (wsV RX4 257 RX2 yX2_chargeFor wsX2_chargeFor) := goodIn_app (goodIn_of _ (by decide +kernel)) ggX4_chargeNow_X2_chargeFor
theorem dX4_chargeNow_0 : decode cX4_chargeNow 0 = .ok (.aload_n 0, 1) := by decide +kernel
theorem dX4_chargeNow_1 : decode cX4_chargeNow 1 = .ok (.aload_n 1, 1) := by decide +kernel
theorem dX4_chargeNow_2 : decode cX4_chargeNow 2 = .ok (.getfield 166, 3) := by decide +kernel
theorem dX4_chargeNow_5 : decode cX4_chargeNow 5 = .ok (.aload_n 1, 1) := by decide +kernel
theorem dX4_chargeNow_6 : decode cX4_chargeNow 6 = .ok (.invokevirtual 255, 3) := by decide +kernel
theorem dX4_chargeNow_9 : decode cX4_chargeNow 9 = .ok (.invokevirtual 133, 3) := by decide +kernel
theorem dX4_chargeNow_12 : decode cX4_chargeNow 12 = .ok (.astore_n 2, 1) := by decide +kernel
theorem dX4_chargeNow_13 : decode cX4_chargeNow 13 = .ok (.aload_n 2, 1) := by decide +kernel
theorem dX4_chargeNow_14 : decode cX4_chargeNow 14 = .ok (.ifnonnull 7, 3) := by decide +kernel
theorem dX4_chargeNow_17 : decode cX4_chargeNow 17 = .ok (.iconst (-1), 1) := by decide +kernel
theorem dX4_chargeNow_18 : decode cX4_chargeNow 18 = .ok (.goto 11, 3) := by decide +kernel
theorem dX4_chargeNow_21 : decode cX4_chargeNow 21 = .ok (.aload_n 2, 1) := by decide +kernel
theorem dX4_chargeNow_22 : decode cX4_chargeNow 22 = .ok (.aload_n 1, 1) := by decide +kernel
theorem dX4_chargeNow_23 : decode cX4_chargeNow 23 = .ok (.getfield 112, 3) := by decide +kernel
theorem dX4_chargeNow_26 : decode cX4_chargeNow 26 = .ok (.invokevirtual 257, 3) := by decide +kernel
theorem dX4_chargeNow_29 : decode cX4_chargeNow 29 = .ok (.ireturn, 1) := by decide +kernel
set_option maxRecDepth 20000 in
theorem ggX4_changeByCorrecting_X4_chargeNow : GoodIn wsX4_changeByCorrecting wsX4_chargeNow := goodIn_r _ [7, 8, 9, 10, 11, 12, 13, 14, 15, 16, 17, 18, 6, 19, 20, 21, 22, 23, 24, 25, 26, 27, 28, 29, 30, 31, 32, 33, 34, 35, 36, 37, 38, 39, 40, 41, 42, 43, 44, 45, 46, 47, 48, 49, 50, 51, 52, 53, 54, 55, 56, 57, 58, 59, 60, 61, 62, 63, 64, 65, 66, 67, 68, 69, 70, 71] (by decide +kernel) (by decide +kernel)
set_option maxRecDepth 20000 in
theorem gX4_changeByCorrecting_X4_chargeNow : GoodIn wsX4_changeByCorrecting (wsV RX4 143 RX4 yX4_chargeNow wsX4_chargeNow) := goodIn_app (goodIn_of _ (by decide +kernel)) ggX4_changeByCorrecting_X4_chargeNow
theorem dX4_changeByCorrecting_0 : decode cX4_changeByCorrecting 0 = .ok (.aload_n 0, 1) := by decide +kernel
theorem dX4_changeByCorrecting_1 : decode cX4_changeByCorrecting 1 = .ok (.aload_n 1, 1) := by decide +kernel
theorem dX4_changeByCorrecting_2 : decode cX4_changeByCorrecting 2 = .ok (.invokevirtual 143, 3) := by decide +kernel
theorem dX4_changeByCorrecting_5 : decode cX4_changeByCorrecting 5 = .ok (.istore_n 2, 1) := by decide +kernel
theorem dX4_changeByCorrecting_6 : decode cX4_changeByCorrecting 6 = .ok (.iload_n 2, 1) := by decide +kernel
theorem dX4_changeByCorrecting_7 : decode cX4_changeByCorrecting 7 = .ok (.iconst (-1), 1) := by decide +kernel
theorem dX4_changeByCorrecting_8 : decode cX4_changeByCorrecting 8 = .ok (.if_icmp .eq 11, 3) := by decide +kernel
theorem dX4_changeByCorrecting_11 : decode cX4_changeByCorrecting 11 = .ok (.iload_n 2, 1) := by decide +kernel
theorem dX4_changeByCorrecting_12 : decode cX4_changeByCorrecting 12 = .ok (.aload_n 1, 1) := by decide +kernel
theorem dX4_changeByCorrecting_13 : decode cX4_changeByCorrecting 13 = .ok (.getfield 153, 3) := by decide +kernel
theorem dX4_changeByCorrecting_16 : decode cX4_changeByCorrecting 16 = .ok (.if_icmp .ne 5, 3) := by decide +kernel
theorem dX4_changeByCorrecting_19 : decode cX4_changeByCorrecting 19 = .ok (.iconst 0, 1) := by decide +kernel
theorem dX4_changeByCorrecting_20 : decode cX4_changeByCorrecting 20 = .ok (.ireturn, 1) := by decide +kernel
theorem dX4_changeByCorrecting_21 : decode cX4_changeByCorrecting 21 = .ok (.iload_n 2, 1) := by decide +kernel
theorem dX4_changeByCorrecting_22 : decode cX4_changeByCorrecting 22 = .ok (.aload_n 1, 1) := by decide +kernel
theorem dX4_changeByCorrecting_23 : decode cX4_changeByCorrecting 23 = .ok (.getfield 153, 3) := by decide +kernel
theorem dX4_changeByCorrecting_26 : decode cX4_changeByCorrecting 26 = .ok (.isub, 1) := by decide +kernel
theorem dX4_changeByCorrecting_27 : decode cX4_changeByCorrecting 27 = .ok (.istore_n 3, 1) := by decide +kernel
theorem dX4_changeByCorrecting_28 : decode cX4_changeByCorrecting 28 = .ok (.aload_n 1, 1) := by decide +kernel
theorem dX4_changeByCorrecting_29 : decode cX4_changeByCorrecting 29 = .ok (.iload_n 2, 1) := by decide +kernel
theorem dX4_changeByCorrecting_30 : decode cX4_changeByCorrecting 30 = .ok (.putfield 153, 3) := by decide +kernel
theorem dX4_changeByCorrecting_33 : decode cX4_changeByCorrecting 33 = .ok (.aload_n 0, 1) := by decide +kernel
theorem dX4_changeByCorrecting_34 : decode cX4_changeByCorrecting 34 = .ok (.dup, 1) := by decide +kernel
theorem dX4_changeByCorrecting_35 : decode cX4_changeByCorrecting 35 = .ok (.getfield 161, 3) := by decide +kernel
theorem dX4_changeByCorrecting_38 : decode cX4_changeByCorrecting 38 = .ok (.iconst 1, 1) := by decide +kernel
theorem dX4_changeByCorrecting_39 : decode cX4_changeByCorrecting 39 = .ok (.iadd, 1) := by decide +kernel
theorem dX4_changeByCorrecting_40 : decode cX4_changeByCorrecting 40 = .ok (.putfield 161, 3) := by decide +kernel
theorem dX4_changeByCorrecting_43 : decode cX4_changeByCorrecting 43 = .ok (.iload_n 3, 1) := by decide +kernel
theorem dX4_changeByCorrecting_44 : decode cX4_changeByCorrecting 44 = .ok (.ireturn, 1) := by decide +kernel
set_option maxRecDepth 20000 in
theorem ggX4_carrierOfRank_X4_priceOf : GoodIn wsX4_carrierOfRank wsX4_priceOf := goodIn_r _ [6, 7, 8, 9, 5, 10, 1, 11, 12, 13, 14, 15, 16, 17, 18, 19, 24, 25, 26, 27, 28, 29, 30, 31, 32, 33] (by decide +kernel) (by decide +kernel)
set_option maxRecDepth 20000 in
theorem gX4_carrierOfRank_X4_priceOf : GoodIn wsX4_carrierOfRank (wsV RX4 260 RX4 yX4_priceOf wsX4_priceOf) := goodIn_app (goodIn_of _ (by decide +kernel)) ggX4_carrierOfRank_X4_priceOf
set_option maxRecDepth 20000 in
theorem ggX4_carrierOfRank_X4_carriersBefore : GoodIn wsX4_carrierOfRank wsX4_carriersBefore := goodIn_r _ [23, 1, 2, 3, 4, 5, 6, 7, 8, 9, 10, 11, 12, 13, 14, 15, 16, 17, 18, 19, 24, 25, 26, 27, 28, 29, 30, 31, 32, 33] (by decide +kernel) (by decide +kernel)
set_option maxRecDepth 20000 in
theorem gX4_carrierOfRank_X4_carriersBefore : GoodIn wsX4_carrierOfRank (wsV RX4 263 RX4 yX4_carriersBefore wsX4_carriersBefore) := goodIn_app (goodIn_of _ (by decide +kernel)) ggX4_carrierOfRank_X4_carriersBefore
theorem dX4_carrierOfRank_0 : decode cX4_carrierOfRank 0 = .ok (.iconst 0, 1) := by decide +kernel
theorem dX4_carrierOfRank_1 : decode cX4_carrierOfRank 1 = .ok (.istore 4, 2) := by decide +kernel
theorem dX4_carrierOfRank_3 : decode cX4_carrierOfRank 3 = .ok (.iload 4, 2) := by decide +kernel
theorem dX4_carrierOfRank_5 : decode cX4_carrierOfRank 5 = .ok (.aload_n 0, 1) := by decide +kernel
theorem dX4_carrierOfRank_6 : decode cX4_carrierOfRank 6 = .ok (.getfield 33, 3) := by decide +kernel
theorem dX4_carrierOfRank_9 : decode cX4_carrierOfRank 9 = .ok (.arraylength, 1) := by decide +kernel
theorem dX4_carrierOfRank_10 : decode cX4_carrierOfRank 10 = .ok (.if_icmp .ge 46, 3) := by decide +kernel
theorem dX4_carrierOfRank_13 : decode cX4_carrierOfRank 13 = .ok (.aload_n 0, 1) := by decide +kernel
theorem dX4_carrierOfRank_14 : decode cX4_carrierOfRank 14 = .ok (.iload 4, 2) := by decide +kernel
theorem dX4_carrierOfRank_16 : decode cX4_carrierOfRank 16 = .ok (.iload_n 1, 1) := by decide +kernel
theorem dX4_carrierOfRank_17 : decode cX4_carrierOfRank 17 = .ok (.invokevirtual 260, 3) := by decide +kernel
theorem dX4_carrierOfRank_20 : decode cX4_carrierOfRank 20 = .ok (.istore 5, 2) := by decide +kernel
theorem dX4_carrierOfRank_22 : decode cX4_carrierOfRank 22 = .ok (.iload 5, 2) := by decide +kernel
theorem dX4_carrierOfRank_24 : decode cX4_carrierOfRank 24 = .ok (.iconst (-1), 1) := by decide +kernel
theorem dX4_carrierOfRank_25 : decode cX4_carrierOfRank 25 = .ok (.if_icmp .eq 25, 3) := by decide +kernel
theorem dX4_carrierOfRank_28 : decode cX4_carrierOfRank 28 = .ok (.iload 5, 2) := by decide +kernel
theorem dX4_carrierOfRank_30 : decode cX4_carrierOfRank 30 = .ok (.iload_n 2, 1) := by decide +kernel
theorem dX4_carrierOfRank_31 : decode cX4_carrierOfRank 31 = .ok (.if_icmp .gt 19, 3) := by decide +kernel
theorem dX4_carrierOfRank_34 : decode cX4_carrierOfRank 34 = .ok (.aload_n 0, 1) := by decide +kernel
theorem dX4_carrierOfRank_35 : decode cX4_carrierOfRank 35 = .ok (.iload 4, 2) := by decide +kernel
theorem dX4_carrierOfRank_37 : decode cX4_carrierOfRank 37 = .ok (.iload 5, 2) := by decide +kernel
theorem dX4_carrierOfRank_39 : decode cX4_carrierOfRank 39 = .ok (.iload_n 1, 1) := by decide +kernel
theorem dX4_carrierOfRank_40 : decode cX4_carrierOfRank 40 = .ok (.invokevirtual 263, 3) := by decide +kernel
theorem dX4_carrierOfRank_43 : decode cX4_carrierOfRank 43 = .ok (.iload_n 3, 1) := by decide +kernel
theorem dX4_carrierOfRank_44 : decode cX4_carrierOfRank 44 = .ok (.if_icmp .ne 6, 3) := by decide +kernel
theorem dX4_carrierOfRank_47 : decode cX4_carrierOfRank 47 = .ok (.iload 4, 2) := by decide +kernel
theorem dX4_carrierOfRank_49 : decode cX4_carrierOfRank 49 = .ok (.ireturn, 1) := by decide +kernel
theorem dX4_carrierOfRank_50 : decode cX4_carrierOfRank 50 = .ok (.iinc 4 1, 3) := by decide +kernel
theorem dX4_carrierOfRank_53 : decode cX4_carrierOfRank 53 = .ok (.goto (-50), 3) := by decide +kernel
theorem dX4_carrierOfRank_56 : decode cX4_carrierOfRank 56 = .ok (.iconst (-1), 1) := by decide +kernel
theorem dX4_carrierOfRank_57 : decode cX4_carrierOfRank 57 = .ok (.ireturn, 1) := by decide +kernel
set_option maxRecDepth 20000 in
theorem ggX4_carriersBefore_X4_priceOf : GoodIn wsX4_carriersBefore wsX4_priceOf := goodIn_r _ [6, 7, 8, 9, 5, 10, 1, 11, 12, 13, 14, 15, 16, 17, 18, 19, 20, 21, 22, 23, 24, 25, 26, 27, 28, 29] (by decide +kernel) (by decide +kernel)
set_option maxRecDepth 20000 in
theorem gX4_carriersBefore_X4_priceOf : GoodIn wsX4_carriersBefore (wsV RX4 260 RX4 yX4_priceOf wsX4_priceOf) := goodIn_app (goodIn_of _ (by decide +kernel)) ggX4_carriersBefore_X4_priceOf
theorem dX4_carriersBefore_0 : decode cX4_carriersBefore 0 = .ok (.iconst 0, 1) := by decide +kernel
theorem dX4_carriersBefore_1 : decode cX4_carriersBefore 1 = .ok (.istore 4, 2) := by decide +kernel
theorem dX4_carriersBefore_3 : decode cX4_carriersBefore 3 = .ok (.iconst 0, 1) := by decide +kernel
theorem dX4_carriersBefore_4 : decode cX4_carriersBefore 4 = .ok (.istore 5, 2) := by decide +kernel
theorem dX4_carriersBefore_6 : decode cX4_carriersBefore 6 = .ok (.iload 5, 2) := by decide +kernel
theorem dX4_carriersBefore_8 : decode cX4_carriersBefore 8 = .ok (.aload_n 0, 1) := by decide +kernel
theorem dX4_carriersBefore_9 : decode cX4_carriersBefore 9 = .ok (.getfield 33, 3) := by decide +kernel
theorem dX4_carriersBefore_12 : decode cX4_carriersBefore 12 = .ok (.arraylength, 1) := by decide +kernel
theorem dX4_carriersBefore_13 : decode cX4_carriersBefore 13 = .ok (.if_icmp .ge 45, 3) := by decide +kernel
theorem dX4_carriersBefore_16 : decode cX4_carriersBefore 16 = .ok (.aload_n 0, 1) := by decide +kernel
theorem dX4_carriersBefore_17 : decode cX4_carriersBefore 17 = .ok (.iload 5, 2) := by decide +kernel
theorem dX4_carriersBefore_19 : decode cX4_carriersBefore 19 = .ok (.iload_n 3, 1) := by decide +kernel
theorem dX4_carriersBefore_20 : decode cX4_carriersBefore 20 = .ok (.invokevirtual 260, 3) := by decide +kernel
theorem dX4_carriersBefore_23 : decode cX4_carriersBefore 23 = .ok (.istore 6, 2) := by decide +kernel
theorem dX4_carriersBefore_25 : decode cX4_carriersBefore 25 = .ok (.iload 6, 2) := by decide +kernel
theorem dX4_carriersBefore_27 : decode cX4_carriersBefore 27 = .ok (.iconst (-1), 1) := by decide +kernel
theorem dX4_carriersBefore_28 : decode cX4_carriersBefore 28 = .ok (.if_icmp .eq 24, 3) := by decide +kernel
theorem dX4_carriersBefore_31 : decode cX4_carriersBefore 31 = .ok (.iload 6, 2) := by decide +kernel
theorem dX4_carriersBefore_33 : decode cX4_carriersBefore 33 = .ok (.iload_n 2, 1) := by decide +kernel
theorem dX4_carriersBefore_34 : decode cX4_carriersBefore 34 = .ok (.if_icmp .lt 15, 3) := by decide +kernel
theorem dX4_carriersBefore_37 : decode cX4_carriersBefore 37 = .ok (.iload 6, 2) := by decide +kernel
theorem dX4_carriersBefore_39 : decode cX4_carriersBefore 39 = .ok (.iload_n 2, 1) := by decide +kernel
theorem dX4_carriersBefore_40 : decode cX4_carriersBefore 40 = .ok (.if_icmp .ne 12, 3) := by decide +kernel
theorem dX4_carriersBefore_43 : decode cX4_carriersBefore 43 = .ok (.iload 5, 2) := by decide +kernel
theorem dX4_carriersBefore_45 : decode cX4_carriersBefore 45 = .ok (.iload_n 1, 1) := by decide +kernel
theorem dX4_carriersBefore_46 : decode cX4_carriersBefore 46 = .ok (.if_icmp .ge 6, 3) := by decide +kernel
theorem dX4_carriersBefore_49 : decode cX4_carriersBefore 49 = .ok (.iinc 4 1, 3) := by decide +kernel
theorem dX4_carriersBefore_52 : decode cX4_carriersBefore 52 = .ok (.iinc 5 1, 3) := by decide +kernel
theorem dX4_carriersBefore_55 : decode cX4_carriersBefore 55 = .ok (.goto (-49), 3) := by decide +kernel
theorem dX4_carriersBefore_58 : decode cX4_carriersBefore 58 = .ok (.iload 4, 2) := by decide +kernel
theorem dX4_carriersBefore_60 : decode cX4_carriersBefore 60 = .ok (.ireturn, 1) := by decide +kernel
set_option maxRecDepth 20000 in
theorem ggX4_priceOf_X4_carrierAt : GoodIn wsX4_priceOf wsX4_carrierAt := goodIn_r _ [5, 6, 16, 17, 18, 19, 20, 21, 22, 23] (by decide +kernel) (by decide +kernel)
set_option maxRecDepth 20000 in
theorem gX4_priceOf_X4_carrierAt : GoodIn wsX4_priceOf (wsV RX4 176 RX4 yX4_carrierAt wsX4_carrierAt) := goodIn_app (goodIn_of _ (by decide +kernel)) ggX4_priceOf_X4_carrierAt
set_option maxRecDepth 20000 in
theorem ggX4_priceOf_X1_priceFor : GoodIn wsX4_priceOf wsX1_priceFor := goodIn_r _ [11, 12, 13, 14, 4, 15, 24, 25] (by decide +kernel) (by decide +kernel)
set_option maxRecDepth 20000 in
theorem gX4_priceOf_X1_priceFor : GoodIn wsX4_priceOf (wsV RX4 193 RX1 yX1_priceFor wsX1_priceFor) := goodIn_app (goodIn_of _ (by decide +kernel)) ggX4_priceOf_X1_priceFor
theorem dX4_priceOf_0 : decode cX4_priceOf 0 = .ok (.aload_n 0, 1) := by decide +kernel
theorem dX4_priceOf_1 : decode cX4_priceOf 1 = .ok (.iload_n 1, 1) := by decide +kernel
theorem dX4_priceOf_2 : decode cX4_priceOf 2 = .ok (.invokevirtual 176, 3) := by decide +kernel
theorem dX4_priceOf_5 : decode cX4_priceOf 5 = .ok (.astore_n 3, 1) := by decide +kernel
theorem dX4_priceOf_6 : decode cX4_priceOf 6 = .ok (.aload_n 3, 1) := by decide +kernel
theorem dX4_priceOf_7 : decode cX4_priceOf 7 = .ok (.ifnonnull 7, 3) := by decide +kernel
theorem dX4_priceOf_10 : decode cX4_priceOf 10 = .ok (.iconst (-1), 1) := by decide +kernel
theorem dX4_priceOf_11 : decode cX4_priceOf 11 = .ok (.goto 8, 3) := by decide +kernel
theorem dX4_priceOf_14 : decode cX4_priceOf 14 = .ok (.aload_n 3, 1) := by decide +kernel
theorem dX4_priceOf_15 : decode cX4_priceOf 15 = .ok (.iload_n 2, 1) := by decide +kernel
theorem dX4_priceOf_16 : decode cX4_priceOf 16 = .ok (.invokevirtual 193, 3) := by decide +kernel
theorem dX4_priceOf_19 : decode cX4_priceOf 19 = .ok (.ireturn, 1) := by decide +kernel
set_option maxRecDepth 20000 in
theorem ggX4_differenceUnder_X4_fits : GoodIn wsX4_differenceUnder wsX4_fits := goodIn_r _ [6] (by decide +kernel) (by decide +kernel)
set_option maxRecDepth 20000 in
theorem gX4_differenceUnder_X4_fits : GoodIn wsX4_differenceUnder (va_wsS RX4 169 yX4_fits wsX4_fits) := goodIn_app (goodIn_of _ (by decide +kernel)) ggX4_differenceUnder_X4_fits
set_option maxRecDepth 20000 in
theorem ggX4_differenceUnder_X0_disputed : GoodIn wsX4_differenceUnder wsX0_disputed := goodIn_r _ [11, 12, 13, 14, 15, 10, 16, 17, 18, 19, 20, 21, 30, 31, 32, 33, 34, 35, 36, 37] (by decide +kernel) (by decide +kernel)
set_option maxRecDepth 20000 in
theorem gX4_differenceUnder_X0_disputed : GoodIn wsX4_differenceUnder (wsV RX4 224 RX0 yX0_disputed wsX0_disputed) := goodIn_app (goodIn_of _ (by decide +kernel)) ggX4_differenceUnder_X0_disputed
theorem dX4_differenceUnder_0 : decode cX4_differenceUnder 0 = .ok (.iconst 0, 1) := by decide +kernel
theorem dX4_differenceUnder_1 : decode cX4_differenceUnder 1 = .ok (.istore_n 2, 1) := by decide +kernel
theorem dX4_differenceUnder_2 : decode cX4_differenceUnder 2 = .ok (.aload_n 0, 1) := by decide +kernel
theorem dX4_differenceUnder_3 : decode cX4_differenceUnder 3 = .ok (.getfield 17, 3) := by decide +kernel
theorem dX4_differenceUnder_6 : decode cX4_differenceUnder 6 = .ok (.astore_n 3, 1) := by decide +kernel
theorem dX4_differenceUnder_7 : decode cX4_differenceUnder 7 = .ok (.aload_n 3, 1) := by decide +kernel
theorem dX4_differenceUnder_8 : decode cX4_differenceUnder 8 = .ok (.arraylength, 1) := by decide +kernel
theorem dX4_differenceUnder_9 : decode cX4_differenceUnder 9 = .ok (.istore 4, 2) := by decide +kernel
theorem dX4_differenceUnder_11 : decode cX4_differenceUnder 11 = .ok (.iconst 0, 1) := by decide +kernel
theorem dX4_differenceUnder_12 : decode cX4_differenceUnder 12 = .ok (.istore 5, 2) := by decide +kernel
theorem dX4_differenceUnder_14 : decode cX4_differenceUnder 14 = .ok (.iload 5, 2) := by decide +kernel
theorem dX4_differenceUnder_16 : decode cX4_differenceUnder 16 = .ok (.iload 4, 2) := by decide +kernel
theorem dX4_differenceUnder_18 : decode cX4_differenceUnder 18 = .ok (.if_icmp .ge 40, 3) := by decide +kernel
theorem dX4_differenceUnder_21 : decode cX4_differenceUnder 21 = .ok (.aload_n 3, 1) := by decide +kernel
theorem dX4_differenceUnder_22 : decode cX4_differenceUnder 22 = .ok (.iload 5, 2) := by decide +kernel
theorem dX4_differenceUnder_24 : decode cX4_differenceUnder 24 = .ok (.aaload, 1) := by decide +kernel
theorem dX4_differenceUnder_25 : decode cX4_differenceUnder 25 = .ok (.astore 6, 2) := by decide +kernel
theorem dX4_differenceUnder_27 : decode cX4_differenceUnder 27 = .ok (.aload 6, 2) := by decide +kernel
theorem dX4_differenceUnder_29 : decode cX4_differenceUnder 29 = .ok (.ifnull 23, 3) := by decide +kernel
theorem dX4_differenceUnder_32 : decode cX4_differenceUnder 32 = .ok (.iload_n 1, 1) := by decide +kernel
theorem dX4_differenceUnder_33 : decode cX4_differenceUnder 33 = .ok (.aload 6, 2) := by decide +kernel
theorem dX4_differenceUnder_35 : decode cX4_differenceUnder 35 = .ok (.getfield 166, 3) := by decide +kernel
theorem dX4_differenceUnder_38 : decode cX4_differenceUnder 38 = .ok (.invokestatic 169, 3) := by decide +kernel
theorem dX4_differenceUnder_41 : decode cX4_differenceUnder 41 = .ok (.ifCond .eq 11, 3) := by decide +kernel
theorem dX4_differenceUnder_44 : decode cX4_differenceUnder 44 = .ok (.iload_n 2, 1) := by decide +kernel
theorem dX4_differenceUnder_45 : decode cX4_differenceUnder 45 = .ok (.aload 6, 2) := by decide +kernel
theorem dX4_differenceUnder_47 : decode cX4_differenceUnder 47 = .ok (.invokevirtual 224, 3) := by decide +kernel
theorem dX4_differenceUnder_50 : decode cX4_differenceUnder 50 = .ok (.iadd, 1) := by decide +kernel
theorem dX4_differenceUnder_51 : decode cX4_differenceUnder 51 = .ok (.istore_n 2, 1) := by decide +kernel
theorem dX4_differenceUnder_52 : decode cX4_differenceUnder 52 = .ok (.iinc 5 1, 3) := by decide +kernel
theorem dX4_differenceUnder_55 : decode cX4_differenceUnder 55 = .ok (.goto (-41), 3) := by decide +kernel
theorem dX4_differenceUnder_58 : decode cX4_differenceUnder 58 = .ok (.iload_n 2, 1) := by decide +kernel
theorem dX4_differenceUnder_59 : decode cX4_differenceUnder 59 = .ok (.ireturn, 1) := by decide +kernel
set_option maxRecDepth 20000 in
theorem ggX4_withWorstDigit_X4_differenceUnder : GoodIn wsX4_withWorstDigit wsX4_differenceUnder := goodIn_r _ [9, 10, 11, 12, 13, 8, 14, 15, 16, 17, 18, 19, 20, 21, 22, 23, 24, 25, 26, 27, 28, 29, 30, 31, 32, 33, 34, 35, 36, 37, 38, 39, 40, 41, 42, 43, 44, 45] (by decide +kernel) (by decide +kernel)
set_option maxRecDepth 20000 in
theorem gX4_withWorstDigit_X4_differenceUnder : GoodIn wsX4_withWorstDigit (wsV RX4 216 RX4 yX4_differenceUnder wsX4_differenceUnder) := goodIn_app (goodIn_of _ (by decide +kernel)) ggX4_withWorstDigit_X4_differenceUnder
theorem dX4_withWorstDigit_0 : decode cX4_withWorstDigit 0 = .ok (.iconst 0, 1) := by decide +kernel
theorem dX4_withWorstDigit_1 : decode cX4_withWorstDigit 1 = .ok (.istore_n 2, 1) := by decide +kernel
theorem dX4_withWorstDigit_2 : decode cX4_withWorstDigit 2 = .ok (.iconst (-1), 1) := by decide +kernel
theorem dX4_withWorstDigit_3 : decode cX4_withWorstDigit 3 = .ok (.istore_n 3, 1) := by decide +kernel
theorem dX4_withWorstDigit_4 : decode cX4_withWorstDigit 4 = .ok (.iload_n 1, 1) := by decide +kernel
theorem dX4_withWorstDigit_5 : decode cX4_withWorstDigit 5 = .ok (.ifCond .ne 7, 3) := by decide +kernel
theorem dX4_withWorstDigit_8 : decode cX4_withWorstDigit 8 = .ok (.iconst 1, 1) := by decide +kernel
theorem dX4_withWorstDigit_9 : decode cX4_withWorstDigit 9 = .ok (.goto 4, 3) := by decide +kernel
theorem dX4_withWorstDigit_12 : decode cX4_withWorstDigit 12 = .ok (.iconst 0, 1) := by decide +kernel
theorem dX4_withWorstDigit_13 : decode cX4_withWorstDigit 13 = .ok (.istore 4, 2) := by decide +kernel
theorem dX4_withWorstDigit_15 : decode cX4_withWorstDigit 15 = .ok (.iload 4, 2) := by decide +kernel
theorem dX4_withWorstDigit_17 : decode cX4_withWorstDigit 17 = .ok (.bipush 9, 2) := by decide +kernel
theorem dX4_withWorstDigit_19 : decode cX4_withWorstDigit 19 = .ok (.if_icmp .gt 41, 3) := by decide +kernel
theorem dX4_withWorstDigit_22 : decode cX4_withWorstDigit 22 = .ok (.iload_n 1, 1) := by decide +kernel
theorem dX4_withWorstDigit_23 : decode cX4_withWorstDigit 23 = .ok (.bipush 10, 2) := by decide +kernel
theorem dX4_withWorstDigit_25 : decode cX4_withWorstDigit 25 = .ok (.imul, 1) := by decide +kernel
theorem dX4_withWorstDigit_26 : decode cX4_withWorstDigit 26 = .ok (.iload 4, 2) := by decide +kernel
theorem dX4_withWorstDigit_28 : decode cX4_withWorstDigit 28 = .ok (.iadd, 1) := by decide +kernel
theorem dX4_withWorstDigit_29 : decode cX4_withWorstDigit 29 = .ok (.istore 5, 2) := by decide +kernel
theorem dX4_withWorstDigit_31 : decode cX4_withWorstDigit 31 = .ok (.aload_n 0, 1) := by decide +kernel
theorem dX4_withWorstDigit_32 : decode cX4_withWorstDigit 32 = .ok (.iload 5, 2) := by decide +kernel
theorem dX4_withWorstDigit_34 : decode cX4_withWorstDigit 34 = .ok (.invokevirtual 216, 3) := by decide +kernel
theorem dX4_withWorstDigit_37 : decode cX4_withWorstDigit 37 = .ok (.invokestatic 227, 3) := by decide +kernel
theorem dX4_withWorstDigit_40 : decode cX4_withWorstDigit 40 = .ok (.istore 6, 2) := by decide +kernel
theorem dX4_withWorstDigit_42 : decode cX4_withWorstDigit 42 = .ok (.iload 6, 2) := by decide +kernel
theorem dX4_withWorstDigit_44 : decode cX4_withWorstDigit 44 = .ok (.iload_n 3, 1) := by decide +kernel
theorem dX4_withWorstDigit_45 : decode cX4_withWorstDigit 45 = .ok (.if_icmp .le 9, 3) := by decide +kernel
theorem dX4_withWorstDigit_48 : decode cX4_withWorstDigit 48 = .ok (.iload 6, 2) := by decide +kernel
theorem dX4_withWorstDigit_50 : decode cX4_withWorstDigit 50 = .ok (.istore_n 3, 1) := by decide +kernel
theorem dX4_withWorstDigit_51 : decode cX4_withWorstDigit 51 = .ok (.iload 5, 2) := by decide +kernel
theorem dX4_withWorstDigit_53 : decode cX4_withWorstDigit 53 = .ok (.istore_n 2, 1) := by decide +kernel
theorem dX4_withWorstDigit_54 : decode cX4_withWorstDigit 54 = .ok (.iinc 4 1, 3) := by decide +kernel
theorem dX4_withWorstDigit_57 : decode cX4_withWorstDigit 57 = .ok (.goto (-42), 3) := by decide +kernel
theorem dX4_withWorstDigit_60 : decode cX4_withWorstDigit 60 = .ok (.iload_n 2, 1) := by decide +kernel
theorem dX4_withWorstDigit_61 : decode cX4_withWorstDigit 61 = .ok (.ireturn, 1) := by decide +kernel
end
section
theorem dX5_init_0 : decode cX5_init 0 = .ok (.aload_n 0, 1) := by decide +kernel
theorem dX5_init_1 : decode cX5_init 1 = .ok (.invokespecial 1, 3) := by decide +kernel
theorem dX5_init_4 : decode cX5_init 4 = .ok (.aload_n 0, 1) := by decide +kernel
theorem dX5_init_5 : decode cX5_init 5 = .ok (.iconst 5, 1) := by decide +kernel
theorem dX5_init_6 : decode cX5_init 6 = .ok (.putfield 7, 3) := by decide +kernel
theorem dX5_init_9 : decode cX5_init 9 = .ok (.aload_n 0, 1) := by decide +kernel
theorem dX5_init_10 : decode cX5_init 10 = .ok (.sipush 471, 3) := by decide +kernel
theorem dX5_init_13 : decode cX5_init 13 = .ok (.newarray .long, 2) := by decide +kernel
theorem dX5_init_15 : decode cX5_init 15 = .ok (.putfield 13, 3) := by decide +kernel
theorem dX5_init_18 : decode cX5_init 18 = .ok (.aload_n 0, 1) := by decide +kernel
theorem dX5_init_19 : decode cX5_init 19 = .ok (.iconst 3, 1) := by decide +kernel
theorem dX5_init_20 : decode cX5_init 20 = .ok (.newarray .int, 2) := by decide +kernel
theorem dX5_init_22 : decode cX5_init 22 = .ok (.putfield 17, 3) := by decide +kernel
theorem dX5_init_25 : decode cX5_init 25 = .ok (.aload_n 0, 1) := by decide +kernel
theorem dX5_init_26 : decode cX5_init 26 = .ok (.iconst 3, 1) := by decide +kernel
theorem dX5_init_27 : decode cX5_init 27 = .ok (.newarray .int, 2) := by decide +kernel
theorem dX5_init_29 : decode cX5_init 29 = .ok (.putfield 21, 3) := by decide +kernel
theorem dX5_init_32 : decode cX5_init 32 = .ok (.aload_n 0, 1) := by decide +kernel
theorem dX5_init_33 : decode cX5_init 33 = .ok (.iconst 3, 1) := by decide +kernel
theorem dX5_init_34 : decode cX5_init 34 = .ok (.newarray .int, 2) := by decide +kernel
theorem dX5_init_36 : decode cX5_init 36 = .ok (.putfield 24, 3) := by decide +kernel
theorem dX5_init_39 : decode cX5_init 39 = .ok (.aload_n 0, 1) := by decide +kernel
theorem dX5_init_40 : decode cX5_init 40 = .ok (.iconst 3, 1) := by decide +kernel
theorem dX5_init_41 : decode cX5_init 41 = .ok (.newarray .int, 2) := by decide +kernel
theorem dX5_init_43 : decode cX5_init 43 = .ok (.putfield 27, 3) := by decide +kernel
theorem dX5_init_46 : decode cX5_init 46 = .ok (.aload_n 0, 1) := by decide +kernel
theorem dX5_init_47 : decode cX5_init 47 = .ok (.bipush 60, 2) := by decide +kernel
theorem dX5_init_49 : decode cX5_init 49 = .ok (.newarray .int, 2) := by decide +kernel
theorem dX5_init_51 : decode cX5_init 51 = .ok (.putfield 30, 3) := by decide +kernel
theorem dX5_init_54 : decode cX5_init 54 = .ok (.aload_n 0, 1) := by decide +kernel
theorem dX5_init_55 : decode cX5_init 55 = .ok (.bipush 60, 2) := by decide +kernel
theorem dX5_init_57 : decode cX5_init 57 = .ok (.newarray .int, 2) := by decide +kernel
theorem dX5_init_59 : decode cX5_init 59 = .ok (.putfield 33, 3) := by decide +kernel
theorem dX5_init_62 : decode cX5_init 62 = .ok (.aload_n 0, 1) := by decide +kernel
theorem dX5_init_63 : decode cX5_init 63 = .ok (.bipush 60, 2) := by decide +kernel
theorem dX5_init_65 : decode cX5_init 65 = .ok (.newarray .int, 2) := by decide +kernel
theorem dX5_init_67 : decode cX5_init 67 = .ok (.putfield 36, 3) := by decide +kernel
theorem dX5_init_70 : decode cX5_init 70 = .ok (.aload_n 0, 1) := by decide +kernel
theorem dX5_init_71 : decode cX5_init 71 = .ok (.bipush 60, 2) := by decide +kernel
theorem dX5_init_73 : decode cX5_init 73 = .ok (.newarray .int, 2) := by decide +kernel
theorem dX5_init_75 : decode cX5_init 75 = .ok (.putfield 39, 3) := by decide +kernel
theorem dX5_init_78 : decode cX5_init 78 = .ok (.aload_n 0, 1) := by decide +kernel
theorem dX5_init_79 : decode cX5_init 79 = .ok (.bipush 60, 2) := by decide +kernel
theorem dX5_init_81 : decode cX5_init 81 = .ok (.newarray .int, 2) := by decide +kernel
theorem dX5_init_83 : decode cX5_init 83 = .ok (.putfield 42, 3) := by decide +kernel
theorem dX5_init_86 : decode cX5_init 86 = .ok (.aload_n 0, 1) := by decide +kernel
theorem dX5_init_87 : decode cX5_init 87 = .ok (.bipush 60, 2) := by decide +kernel
theorem dX5_init_89 : decode cX5_init 89 = .ok (.newarray .int, 2) := by decide +kernel
theorem dX5_init_91 : decode cX5_init 91 = .ok (.putfield 45, 3) := by decide +kernel
theorem dX5_init_94 : decode cX5_init 94 = .ok (.aload_n 0, 1) := by decide +kernel
theorem dX5_init_95 : decode cX5_init 95 = .ok (.bipush 60, 2) := by decide +kernel
theorem dX5_init_97 : decode cX5_init 97 = .ok (.newarray .int, 2) := by decide +kernel
theorem dX5_init_99 : decode cX5_init 99 = .ok (.putfield 48, 3) := by decide +kernel
theorem dX5_init_102 : decode cX5_init 102 = .ok (.aload_n 0, 1) := by decide +kernel
theorem dX5_init_103 : decode cX5_init 103 = .ok (.bipush 30, 2) := by decide +kernel
theorem dX5_init_105 : decode cX5_init 105 = .ok (.newarray .int, 2) := by decide +kernel
theorem dX5_init_107 : decode cX5_init 107 = .ok (.putfield 51, 3) := by decide +kernel
theorem dX5_init_110 : decode cX5_init 110 = .ok (.aload_n 0, 1) := by decide +kernel
theorem dX5_init_111 : decode cX5_init 111 = .ok (.bipush 30, 2) := by decide +kernel
theorem dX5_init_113 : decode cX5_init 113 = .ok (.newarray .int, 2) := by decide +kernel
theorem dX5_init_115 : decode cX5_init 115 = .ok (.putfield 54, 3) := by decide +kernel
theorem dX5_init_118 : decode cX5_init 118 = .ok (.aload_n 0, 1) := by decide +kernel
theorem dX5_init_119 : decode cX5_init 119 = .ok (.bipush 30, 2) := by decide +kernel
theorem dX5_init_121 : decode cX5_init 121 = .ok (.newarray .int, 2) := by decide +kernel
theorem dX5_init_123 : decode cX5_init 123 = .ok (.putfield 57, 3) := by decide +kernel
theorem dX5_init_126 : decode cX5_init 126 = .ok (.aload_n 0, 1) := by decide +kernel
theorem dX5_init_127 : decode cX5_init 127 = .ok (.bipush 30, 2) := by decide +kernel
theorem dX5_init_129 : decode cX5_init 129 = .ok (.newarray .int, 2) := by decide +kernel
theorem dX5_init_131 : decode cX5_init 131 = .ok (.putfield 60, 3) := by decide +kernel
theorem dX5_init_134 : decode cX5_init 134 = .ok (.aload_n 0, 1) := by decide +kernel
theorem dX5_init_135 : decode cX5_init 135 = .ok (.bipush 30, 2) := by decide +kernel
theorem dX5_init_137 : decode cX5_init 137 = .ok (.newarray .int, 2) := by decide +kernel
theorem dX5_init_139 : decode cX5_init 139 = .ok (.putfield 63, 3) := by decide +kernel
theorem dX5_init_142 : decode cX5_init 142 = .ok (.aload_n 0, 1) := by decide +kernel
theorem dX5_init_143 : decode cX5_init 143 = .ok (.bipush 30, 2) := by decide +kernel
theorem dX5_init_145 : decode cX5_init 145 = .ok (.newarray .int, 2) := by decide +kernel
theorem dX5_init_147 : decode cX5_init 147 = .ok (.putfield 66, 3) := by decide +kernel
theorem dX5_init_150 : decode cX5_init 150 = .ok (.aload_n 0, 1) := by decide +kernel
theorem dX5_init_151 : decode cX5_init 151 = .ok (.iconst 4, 1) := by decide +kernel
theorem dX5_init_152 : decode cX5_init 152 = .ok (.newarray .int, 2) := by decide +kernel
theorem dX5_init_154 : decode cX5_init 154 = .ok (.putfield 69, 3) := by decide +kernel
theorem dX5_init_157 : decode cX5_init 157 = .ok (.aload_n 0, 1) := by decide +kernel
theorem dX5_init_158 : decode cX5_init 158 = .ok (.bipush 40, 2) := by decide +kernel
theorem dX5_init_160 : decode cX5_init 160 = .ok (.newarray .int, 2) := by decide +kernel
theorem dX5_init_162 : decode cX5_init 162 = .ok (.putfield 72, 3) := by decide +kernel
theorem dX5_init_165 : decode cX5_init 165 = .ok (.aload_n 0, 1) := by decide +kernel
theorem dX5_init_166 : decode cX5_init 166 = .ok (.bipush 40, 2) := by decide +kernel
theorem dX5_init_168 : decode cX5_init 168 = .ok (.newarray .int, 2) := by decide +kernel
theorem dX5_init_170 : decode cX5_init 170 = .ok (.putfield 75, 3) := by decide +kernel
theorem dX5_init_173 : decode cX5_init 173 = .ok (.iconst 0, 1) := by decide +kernel
theorem dX5_init_174 : decode cX5_init 174 = .ok (.istore_n 1, 1) := by decide +kernel
theorem dX5_init_175 : decode cX5_init 175 = .ok (.iload_n 1, 1) := by decide +kernel
theorem dX5_init_176 : decode cX5_init 176 = .ok (.bipush 60, 2) := by decide +kernel
theorem dX5_init_178 : decode cX5_init 178 = .ok (.if_icmp .ge 16, 3) := by decide +kernel
theorem dX5_init_181 : decode cX5_init 181 = .ok (.aload_n 0, 1) := by decide +kernel
theorem dX5_init_182 : decode cX5_init 182 = .ok (.getfield 45, 3) := by decide +kernel
theorem dX5_init_185 : decode cX5_init 185 = .ok (.iload_n 1, 1) := by decide +kernel
theorem dX5_init_186 : decode cX5_init 186 = .ok (.iconst (-1), 1) := by decide +kernel
theorem dX5_init_187 : decode cX5_init 187 = .ok (.iastore, 1) := by decide +kernel
theorem dX5_init_188 : decode cX5_init 188 = .ok (.iinc 1 1, 3) := by decide +kernel
theorem dX5_init_191 : decode cX5_init 191 = .ok (.goto (-16), 3) := by decide +kernel
theorem dX5_init_194 : decode cX5_init 194 = .ok (.return_, 1) := by decide +kernel
theorem dX5_thrown_0 : decode cX5_thrown 0 = .ok (.aload_n 0, 1) := by decide +kernel
theorem dX5_thrown_1 : decode cX5_thrown 1 = .ok (.getfield 78, 3) := by decide +kernel
theorem dX5_thrown_4 : decode cX5_thrown 4 = .ok (.ireturn, 1) := by decide +kernel
theorem dX5_fails_0 : decode cX5_fails 0 = .ok (.aload_n 0, 1) := by decide +kernel
theorem dX5_fails_1 : decode cX5_fails 1 = .ok (.iload_n 1, 1) := by decide +kernel
theorem dX5_fails_2 : decode cX5_fails 2 = .ok (.putfield 78, 3) := by decide +kernel
theorem dX5_fails_5 : decode cX5_fails 5 = .ok (.iconst 0, 1) := by decide +kernel
theorem dX5_fails_6 : decode cX5_fails 6 = .ok (.ireturn, 1) := by decide +kernel
theorem dX5_asks_0 : decode cX5_asks 0 = .ok (.aload_n 0, 1) := by decide +kernel
theorem dX5_asks_1 : decode cX5_asks 1 = .ok (.iload_n 1, 1) := by decide +kernel
theorem dX5_asks_2 : decode cX5_asks 2 = .ok (.ifCond .eq 7, 3) := by decide +kernel
theorem dX5_asks_5 : decode cX5_asks 5 = .ok (.iconst 0, 1) := by decide +kernel
theorem dX5_asks_6 : decode cX5_asks 6 = .ok (.goto 4, 3) := by decide +kernel
theorem dX5_asks_9 : decode cX5_asks 9 = .ok (.iconst 1, 1) := by decide +kernel
theorem dX5_asks_10 : decode cX5_asks 10 = .ok (.putfield 78, 3) := by decide +kernel
theorem dX5_asks_13 : decode cX5_asks 13 = .ok (.iload_n 1, 1) := by decide +kernel
theorem dX5_asks_14 : decode cX5_asks 14 = .ok (.ireturn, 1) := by decide +kernel
theorem dX5_in_0 : decode cX5_in 0 = .ok (.iload_n 0, 1) := by decide +kernel
theorem dX5_in_1 : decode cX5_in 1 = .ok (.iload_n 1, 1) := by decide +kernel
theorem dX5_in_2 : decode cX5_in 2 = .ok (.if_icmp .lt 12, 3) := by decide +kernel
theorem dX5_in_5 : decode cX5_in 5 = .ok (.iload_n 0, 1) := by decide +kernel
theorem dX5_in_6 : decode cX5_in 6 = .ok (.iload_n 2, 1) := by decide +kernel
theorem dX5_in_7 : decode cX5_in 7 = .ok (.if_icmp .gt 7, 3) := by decide +kernel
theorem dX5_in_10 : decode cX5_in 10 = .ok (.iconst 1, 1) := by decide +kernel
theorem dX5_in_11 : decode cX5_in 11 = .ok (.goto 4, 3) := by decide +kernel
theorem dX5_in_14 : decode cX5_in 14 = .ok (.iconst 0, 1) := by decide +kernel
theorem dX5_in_15 : decode cX5_in 15 = .ok (.ireturn, 1) := by decide +kernel
set_option maxRecDepth 20000 in
theorem ggX5_isNumber_X5_in : GoodIn wsX5_isNumber wsX5_in := goodIn_r _ [5] (by decide +kernel) (by decide +kernel)
set_option maxRecDepth 20000 in
theorem gX5_isNumber_X5_in : GoodIn wsX5_isNumber (va_wsS RX5 82 yX5_in wsX5_in) := goodIn_app (goodIn_of _ (by decide +kernel)) ggX5_isNumber_X5_in
theorem dX5_isNumber_0 : decode cX5_isNumber 0 = .ok (.iload_n 0, 1) := by decide +kernel
theorem dX5_isNumber_1 : decode cX5_isNumber 1 = .ok (.sipush 1000, 3) := by decide +kernel
theorem dX5_isNumber_4 : decode cX5_isNumber 4 = .ok (.ldc 81, 2) := by decide +kernel
theorem dX5_isNumber_6 : decode cX5_isNumber 6 = .ok (.invokestatic 82, 3) := by decide +kernel
theorem dX5_isNumber_9 : decode cX5_isNumber 9 = .ok (.ireturn, 1) := by decide +kernel
set_option maxRecDepth 20000 in
theorem ggX5_isPrefix_X5_in : GoodIn wsX5_isPrefix wsX5_in := goodIn_r _ [5] (by decide +kernel) (by decide +kernel)
set_option maxRecDepth 20000 in
theorem gX5_isPrefix_X5_in : GoodIn wsX5_isPrefix (va_wsS RX5 82 yX5_in wsX5_in) := goodIn_app (goodIn_of _ (by decide +kernel)) ggX5_isPrefix_X5_in
theorem dX5_isPrefix_0 : decode cX5_isPrefix 0 = .ok (.iload_n 0, 1) := by decide +kernel
theorem dX5_isPrefix_1 : decode cX5_isPrefix 1 = .ok (.iconst 1, 1) := by decide +kernel
theorem dX5_isPrefix_2 : decode cX5_isPrefix 2 = .ok (.ldc 86, 2) := by decide +kernel
theorem dX5_isPrefix_4 : decode cX5_isPrefix 4 = .ok (.invokestatic 82, 3) := by decide +kernel
theorem dX5_isPrefix_7 : decode cX5_isPrefix 7 = .ok (.ireturn, 1) := by decide +kernel
theorem dX5_fits_0 : decode cX5_fits 0 = .ok (.iload_n 1, 1) := by decide +kernel
theorem dX5_fits_1 : decode cX5_fits 1 = .ok (.istore_n 2, 1) := by decide +kernel
theorem dX5_fits_2 : decode cX5_fits 2 = .ok (.iload_n 2, 1) := by decide +kernel
theorem dX5_fits_3 : decode cX5_fits 3 = .ok (.iload_n 0, 1) := by decide +kernel
theorem dX5_fits_4 : decode cX5_fits 4 = .ok (.if_icmp .le 11, 3) := by decide +kernel
theorem dX5_fits_7 : decode cX5_fits 7 = .ok (.iload_n 2, 1) := by decide +kernel
theorem dX5_fits_8 : decode cX5_fits 8 = .ok (.bipush 10, 2) := by decide +kernel
theorem dX5_fits_10 : decode cX5_fits 10 = .ok (.idiv, 1) := by decide +kernel
theorem dX5_fits_11 : decode cX5_fits 11 = .ok (.istore_n 2, 1) := by decide +kernel
theorem dX5_fits_12 : decode cX5_fits 12 = .ok (.goto (-10), 3) := by decide +kernel
theorem dX5_fits_15 : decode cX5_fits 15 = .ok (.iload_n 2, 1) := by decide +kernel
theorem dX5_fits_16 : decode cX5_fits 16 = .ok (.iload_n 0, 1) := by decide +kernel
theorem dX5_fits_17 : decode cX5_fits 17 = .ok (.if_icmp .ne 7, 3) := by decide +kernel
theorem dX5_fits_20 : decode cX5_fits 20 = .ok (.iconst 1, 1) := by decide +kernel
theorem dX5_fits_21 : decode cX5_fits 21 = .ok (.goto 4, 3) := by decide +kernel
theorem dX5_fits_24 : decode cX5_fits 24 = .ok (.iconst 0, 1) := by decide +kernel
theorem dX5_fits_25 : decode cX5_fits 25 = .ok (.ireturn, 1) := by decide +kernel
theorem dX5_apart_0 : decode cX5_apart 0 = .ok (.iload_n 0, 1) := by decide +kernel
theorem dX5_apart_1 : decode cX5_apart 1 = .ok (.iload_n 1, 1) := by decide +kernel
theorem dX5_apart_2 : decode cX5_apart 2 = .ok (.if_icmp .ge 9, 3) := by decide +kernel
theorem dX5_apart_5 : decode cX5_apart 5 = .ok (.iload_n 1, 1) := by decide +kernel
theorem dX5_apart_6 : decode cX5_apart 6 = .ok (.iload_n 0, 1) := by decide +kernel
theorem dX5_apart_7 : decode cX5_apart 7 = .ok (.isub, 1) := by decide +kernel
theorem dX5_apart_8 : decode cX5_apart 8 = .ok (.goto 6, 3) := by decide +kernel
theorem dX5_apart_11 : decode cX5_apart 11 = .ok (.iload_n 0, 1) := by decide +kernel
theorem dX5_apart_12 : decode cX5_apart 12 = .ok (.iload_n 1, 1) := by decide +kernel
theorem dX5_apart_13 : decode cX5_apart 13 = .ok (.isub, 1) := by decide +kernel
theorem dX5_apart_14 : decode cX5_apart 14 = .ok (.ireturn, 1) := by decide +kernel
set_option maxRecDepth 20000 in
theorem ggX5_setBound_X5_in : GoodIn wsX5_setBound wsX5_in := goodIn_r _ [5] (by decide +kernel) (by decide +kernel)
set_option maxRecDepth 20000 in
theorem gX5_setBound_X5_in : GoodIn wsX5_setBound (va_wsS RX5 82 yX5_in wsX5_in) := goodIn_app (goodIn_of _ (by decide +kernel)) ggX5_setBound_X5_in
set_option maxRecDepth 20000 in
theorem ggX5_setBound_X5_asks : GoodIn wsX5_setBound wsX5_asks := goodIn_r _ [9, 10, 11, 12, 13, 14, 15, 16, 17, 18, 19, 20, 21, 22, 23, 24, 25, 26, 27, 28, 29, 30, 31, 32, 33, 34, 35, 36] (by decide +kernel) (by decide +kernel)
set_option maxRecDepth 20000 in
theorem gX5_setBound_X5_asks : GoodIn wsX5_setBound (wsV RX5 87 RX5 yX5_asks wsX5_asks) := goodIn_app (goodIn_of _ (by decide +kernel)) ggX5_setBound_X5_asks
theorem dX5_setBound_0 : decode cX5_setBound 0 = .ok (.aload_n 0, 1) := by decide +kernel
theorem dX5_setBound_1 : decode cX5_setBound 1 = .ok (.iload_n 1, 1) := by decide +kernel
theorem dX5_setBound_2 : decode cX5_setBound 2 = .ok (.iconst 0, 1) := by decide +kernel
theorem dX5_setBound_3 : decode cX5_setBound 3 = .ok (.bipush 100, 2) := by decide +kernel
theorem dX5_setBound_5 : decode cX5_setBound 5 = .ok (.invokestatic 82, 3) := by decide +kernel
theorem dX5_setBound_8 : decode cX5_setBound 8 = .ok (.invokevirtual 87, 3) := by decide +kernel
theorem dX5_setBound_11 : decode cX5_setBound 11 = .ok (.ifCond .ne 5, 3) := by decide +kernel
theorem dX5_setBound_14 : decode cX5_setBound 14 = .ok (.iconst 0, 1) := by decide +kernel
theorem dX5_setBound_15 : decode cX5_setBound 15 = .ok (.ireturn, 1) := by decide +kernel
theorem dX5_setBound_16 : decode cX5_setBound 16 = .ok (.aload_n 0, 1) := by decide +kernel
theorem dX5_setBound_17 : decode cX5_setBound 17 = .ok (.getfield 7, 3) := by decide +kernel
theorem dX5_setBound_20 : decode cX5_setBound 20 = .ok (.istore_n 2, 1) := by decide +kernel
theorem dX5_setBound_21 : decode cX5_setBound 21 = .ok (.aload_n 0, 1) := by decide +kernel
theorem dX5_setBound_22 : decode cX5_setBound 22 = .ok (.iload_n 1, 1) := by decide +kernel
theorem dX5_setBound_23 : decode cX5_setBound 23 = .ok (.putfield 7, 3) := by decide +kernel
theorem dX5_setBound_26 : decode cX5_setBound 26 = .ok (.iload_n 2, 1) := by decide +kernel
theorem dX5_setBound_27 : decode cX5_setBound 27 = .ok (.ireturn, 1) := by decide +kernel
set_option maxRecDepth 20000 in
theorem ggX5_joined_X5_apart : GoodIn wsX5_joined wsX5_apart := goodIn_r _ [10] (by decide +kernel) (by decide +kernel)
set_option maxRecDepth 20000 in
theorem gX5_joined_X5_apart : GoodIn wsX5_joined (va_wsS RX5 94 yX5_apart wsX5_apart) := goodIn_app (goodIn_of _ (by decide +kernel)) ggX5_joined_X5_apart
theorem dX5_joined_0 : decode cX5_joined 0 = .ok (.iconst 0, 1) := by decide +kernel
theorem dX5_joined_1 : decode cX5_joined 1 = .ok (.istore 5, 2) := by decide +kernel
theorem dX5_joined_3 : decode cX5_joined 3 = .ok (.iload 5, 2) := by decide +kernel
theorem dX5_joined_5 : decode cX5_joined 5 = .ok (.aload_n 0, 1) := by decide +kernel
theorem dX5_joined_6 : decode cX5_joined 6 = .ok (.getfield 91, 3) := by decide +kernel
theorem dX5_joined_9 : decode cX5_joined 9 = .ok (.if_icmp .ge 74, 3) := by decide +kernel
theorem dX5_joined_12 : decode cX5_joined 12 = .ok (.aload_n 0, 1) := by decide +kernel
theorem dX5_joined_13 : decode cX5_joined 13 = .ok (.getfield 30, 3) := by decide +kernel
theorem dX5_joined_16 : decode cX5_joined 16 = .ok (.iload 5, 2) := by decide +kernel
theorem dX5_joined_18 : decode cX5_joined 18 = .ok (.iaload, 1) := by decide +kernel
theorem dX5_joined_19 : decode cX5_joined 19 = .ok (.iload_n 2, 1) := by decide +kernel
theorem dX5_joined_20 : decode cX5_joined 20 = .ok (.if_icmp .ne 57, 3) := by decide +kernel
theorem dX5_joined_23 : decode cX5_joined 23 = .ok (.aload_n 0, 1) := by decide +kernel
theorem dX5_joined_24 : decode cX5_joined 24 = .ok (.getfield 42, 3) := by decide +kernel
theorem dX5_joined_27 : decode cX5_joined 27 = .ok (.iload 5, 2) := by decide +kernel
theorem dX5_joined_29 : decode cX5_joined 29 = .ok (.iaload, 1) := by decide +kernel
theorem dX5_joined_30 : decode cX5_joined 30 = .ok (.iload_n 1, 1) := by decide +kernel
theorem dX5_joined_31 : decode cX5_joined 31 = .ok (.ishr, 1) := by decide +kernel
theorem dX5_joined_32 : decode cX5_joined 32 = .ok (.iconst 1, 1) := by decide +kernel
theorem dX5_joined_33 : decode cX5_joined 33 = .ok (.iand, 1) := by decide +kernel
theorem dX5_joined_34 : decode cX5_joined 34 = .ok (.ifCond .ne 43, 3) := by decide +kernel
theorem dX5_joined_37 : decode cX5_joined 37 = .ok (.aload_n 0, 1) := by decide +kernel
theorem dX5_joined_38 : decode cX5_joined 38 = .ok (.getfield 33, 3) := by decide +kernel
theorem dX5_joined_41 : decode cX5_joined 41 = .ok (.iload 5, 2) := by decide +kernel
theorem dX5_joined_43 : decode cX5_joined 43 = .ok (.iaload, 1) := by decide +kernel
theorem dX5_joined_44 : decode cX5_joined 44 = .ok (.iload_n 3, 1) := by decide +kernel
theorem dX5_joined_45 : decode cX5_joined 45 = .ok (.invokestatic 94, 3) := by decide +kernel
theorem dX5_joined_48 : decode cX5_joined 48 = .ok (.aload_n 0, 1) := by decide +kernel
theorem dX5_joined_49 : decode cX5_joined 49 = .ok (.getfield 7, 3) := by decide +kernel
theorem dX5_joined_52 : decode cX5_joined 52 = .ok (.if_icmp .gt 25, 3) := by decide +kernel
theorem dX5_joined_55 : decode cX5_joined 55 = .ok (.aload_n 0, 1) := by decide +kernel
theorem dX5_joined_56 : decode cX5_joined 56 = .ok (.getfield 36, 3) := by decide +kernel
theorem dX5_joined_59 : decode cX5_joined 59 = .ok (.iload 5, 2) := by decide +kernel
theorem dX5_joined_61 : decode cX5_joined 61 = .ok (.iaload, 1) := by decide +kernel
theorem dX5_joined_62 : decode cX5_joined 62 = .ok (.iload 4, 2) := by decide +kernel
theorem dX5_joined_64 : decode cX5_joined 64 = .ok (.invokestatic 94, 3) := by decide +kernel
theorem dX5_joined_67 : decode cX5_joined 67 = .ok (.aload_n 0, 1) := by decide +kernel
theorem dX5_joined_68 : decode cX5_joined 68 = .ok (.getfield 7, 3) := by decide +kernel
theorem dX5_joined_71 : decode cX5_joined 71 = .ok (.if_icmp .gt 6, 3) := by decide +kernel
theorem dX5_joined_74 : decode cX5_joined 74 = .ok (.iload 5, 2) := by decide +kernel
theorem dX5_joined_76 : decode cX5_joined 76 = .ok (.ireturn, 1) := by decide +kernel
theorem dX5_joined_77 : decode cX5_joined 77 = .ok (.iinc 5 1, 3) := by decide +kernel
theorem dX5_joined_80 : decode cX5_joined 80 = .ok (.goto (-77), 3) := by decide +kernel
theorem dX5_joined_83 : decode cX5_joined 83 = .ok (.aload_n 0, 1) := by decide +kernel
theorem dX5_joined_84 : decode cX5_joined 84 = .ok (.getfield 91, 3) := by decide +kernel
theorem dX5_joined_87 : decode cX5_joined 87 = .ok (.ireturn, 1) := by decide +kernel
set_option maxRecDepth 20000 in
theorem ggX5_record_X5_in : GoodIn wsX5_record wsX5_in := goodIn_r _ [16] (by decide +kernel) (by decide +kernel)
set_option maxRecDepth 20000 in
theorem gX5_record_X5_in : GoodIn wsX5_record (va_wsS RX5 82 yX5_in wsX5_in) := goodIn_app (goodIn_of _ (by decide +kernel)) ggX5_record_X5_in
set_option maxRecDepth 20000 in
theorem ggX5_record_X5_isNumber : GoodIn wsX5_record wsX5_isNumber := goodIn_r _ [19, 20, 13, 14, 15, 16] (by decide +kernel) (by decide +kernel)
set_option maxRecDepth 20000 in
theorem gX5_record_X5_isNumber : GoodIn wsX5_record (va_wsS RX5 98 yX5_isNumber wsX5_isNumber) := goodIn_app (goodIn_of _ (by decide +kernel)) ggX5_record_X5_isNumber
set_option maxRecDepth 20000 in
theorem ggX5_record_X5_asks : GoodIn wsX5_record wsX5_asks := goodIn_r _ [24, 25, 38, 39, 40, 41, 42, 43, 44, 45, 46, 47, 48, 49, 50, 51, 52, 53, 54, 55, 56, 57, 58, 59, 60, 61, 62, 63] (by decide +kernel) (by decide +kernel)
set_option maxRecDepth 20000 in
theorem gX5_record_X5_asks : GoodIn wsX5_record (wsV RX5 87 RX5 yX5_asks wsX5_asks) := goodIn_app (goodIn_of _ (by decide +kernel)) ggX5_record_X5_asks
set_option maxRecDepth 20000 in
theorem ggX5_record_X5_joined : GoodIn wsX5_record wsX5_joined := goodIn_r _ [29, 7, 8, 11, 9, 30, 10, 31, 32, 15, 33, 38, 39, 40, 41, 42, 43, 44, 45, 46, 47, 48, 49, 50, 51, 52, 53, 54, 55, 56, 57, 58, 59, 60, 61, 62, 63] (by decide +kernel) (by decide +kernel)
set_option maxRecDepth 20000 in
theorem gX5_record_X5_joined : GoodIn wsX5_record (wsV RX5 103 RX5 yX5_joined wsX5_joined) := goodIn_app (goodIn_of _ (by decide +kernel)) ggX5_record_X5_joined
set_option maxRecDepth 20000 in
theorem ggX5_record_X5_fails : GoodIn wsX5_record wsX5_fails := goodIn_r _ [37, 25, 38, 39, 40, 41, 42, 43, 44, 45, 46, 47, 48, 49, 50, 51, 52, 53, 54, 55, 56, 57, 58, 59, 60, 61, 62, 63] (by decide +kernel) (by decide +kernel)
set_option maxRecDepth 20000 in
theorem gX5_record_X5_fails : GoodIn wsX5_record (wsV RX5 107 RX5 yX5_fails wsX5_fails) := goodIn_app (goodIn_of _ (by decide +kernel)) ggX5_record_X5_fails
theorem dX5_record_0 : decode cX5_record 0 = .ok (.aload_n 0, 1) := by decide +kernel
theorem dX5_record_1 : decode cX5_record 1 = .ok (.iload_n 1, 1) := by decide +kernel
theorem dX5_record_2 : decode cX5_record 2 = .ok (.iconst 0, 1) := by decide +kernel
theorem dX5_record_3 : decode cX5_record 3 = .ok (.iconst 2, 1) := by decide +kernel
theorem dX5_record_4 : decode cX5_record 4 = .ok (.invokestatic 82, 3) := by decide +kernel
theorem dX5_record_7 : decode cX5_record 7 = .ok (.ifCond .eq 48, 3) := by decide +kernel
theorem dX5_record_10 : decode cX5_record 10 = .ok (.iload_n 2, 1) := by decide +kernel
theorem dX5_record_11 : decode cX5_record 11 = .ok (.iconst 0, 1) := by decide +kernel
theorem dX5_record_12 : decode cX5_record 12 = .ok (.sipush 9999, 3) := by decide +kernel
theorem dX5_record_15 : decode cX5_record 15 = .ok (.invokestatic 82, 3) := by decide +kernel
theorem dX5_record_18 : decode cX5_record 18 = .ok (.ifCond .eq 37, 3) := by decide +kernel
theorem dX5_record_21 : decode cX5_record 21 = .ok (.iload_n 3, 1) := by decide +kernel
theorem dX5_record_22 : decode cX5_record 22 = .ok (.invokestatic 98, 3) := by decide +kernel
theorem dX5_record_25 : decode cX5_record 25 = .ok (.ifCond .eq 30, 3) := by decide +kernel
theorem dX5_record_28 : decode cX5_record 28 = .ok (.iload 4, 2) := by decide +kernel
theorem dX5_record_30 : decode cX5_record 30 = .ok (.iconst 0, 1) := by decide +kernel
theorem dX5_record_31 : decode cX5_record 31 = .ok (.ldc 102, 2) := by decide +kernel
theorem dX5_record_33 : decode cX5_record 33 = .ok (.invokestatic 82, 3) := by decide +kernel
theorem dX5_record_36 : decode cX5_record 36 = .ok (.ifCond .eq 19, 3) := by decide +kernel
theorem dX5_record_39 : decode cX5_record 39 = .ok (.iload 5, 2) := by decide +kernel
theorem dX5_record_41 : decode cX5_record 41 = .ok (.iconst 0, 1) := by decide +kernel
theorem dX5_record_42 : decode cX5_record 42 = .ok (.sipush 10000, 3) := by decide +kernel
theorem dX5_record_45 : decode cX5_record 45 = .ok (.invokestatic 82, 3) := by decide +kernel
theorem dX5_record_48 : decode cX5_record 48 = .ok (.ifCond .eq 7, 3) := by decide +kernel
theorem dX5_record_51 : decode cX5_record 51 = .ok (.iconst 1, 1) := by decide +kernel
theorem dX5_record_52 : decode cX5_record 52 = .ok (.goto 4, 3) := by decide +kernel
theorem dX5_record_55 : decode cX5_record 55 = .ok (.iconst 0, 1) := by decide +kernel
theorem dX5_record_56 : decode cX5_record 56 = .ok (.invokevirtual 87, 3) := by decide +kernel
theorem dX5_record_59 : decode cX5_record 59 = .ok (.ifCond .ne 5, 3) := by decide +kernel
theorem dX5_record_62 : decode cX5_record 62 = .ok (.iconst 0, 1) := by decide +kernel
theorem dX5_record_63 : decode cX5_record 63 = .ok (.ireturn, 1) := by decide +kernel
theorem dX5_record_64 : decode cX5_record 64 = .ok (.sipush 157, 3) := by decide +kernel
theorem dX5_record_67 : decode cX5_record 67 = .ok (.iload_n 1, 1) := by decide +kernel
theorem dX5_record_68 : decode cX5_record 68 = .ok (.imul, 1) := by decide +kernel
theorem dX5_record_69 : decode cX5_record 69 = .ok (.iload_n 2, 1) := by decide +kernel
theorem dX5_record_70 : decode cX5_record 70 = .ok (.bipush 64, 2) := by decide +kernel
theorem dX5_record_72 : decode cX5_record 72 = .ok (.idiv, 1) := by decide +kernel
theorem dX5_record_73 : decode cX5_record 73 = .ok (.iadd, 1) := by decide +kernel
theorem dX5_record_74 : decode cX5_record 74 = .ok (.istore 6, 2) := by decide +kernel
theorem dX5_record_76 : decode cX5_record 76 = .ok (.aload_n 0, 1) := by decide +kernel
theorem dX5_record_77 : decode cX5_record 77 = .ok (.getfield 13, 3) := by decide +kernel
theorem dX5_record_80 : decode cX5_record 80 = .ok (.iload 6, 2) := by decide +kernel
theorem dX5_record_82 : decode cX5_record 82 = .ok (.laload, 1) := by decide +kernel
theorem dX5_record_83 : decode cX5_record 83 = .ok (.iload_n 2, 1) := by decide +kernel
theorem dX5_record_84 : decode cX5_record 84 = .ok (.bipush 64, 2) := by decide +kernel
theorem dX5_record_86 : decode cX5_record 86 = .ok (.irem, 1) := by decide +kernel
theorem dX5_record_87 : decode cX5_record 87 = .ok (.lshr, 1) := by decide +kernel
theorem dX5_record_88 : decode cX5_record 88 = .ok (.lconst 1, 1) := by decide +kernel
theorem dX5_record_89 : decode cX5_record 89 = .ok (.land, 1) := by decide +kernel
theorem dX5_record_90 : decode cX5_record 90 = .ok (.lconst 1, 1) := by decide +kernel
theorem dX5_record_91 : decode cX5_record 91 = .ok (.lcmp, 1) := by decide +kernel
theorem dX5_record_92 : decode cX5_record 92 = .ok (.ifCond .ne 15, 3) := by decide +kernel
theorem dX5_record_95 : decode cX5_record 95 = .ok (.aload_n 0, 1) := by decide +kernel
theorem dX5_record_96 : decode cX5_record 96 = .ok (.getfield 27, 3) := by decide +kernel
theorem dX5_record_99 : decode cX5_record 99 = .ok (.iload_n 1, 1) := by decide +kernel
theorem dX5_record_100 : decode cX5_record 100 = .ok (.dup2, 1) := by decide +kernel
theorem dX5_record_101 : decode cX5_record 101 = .ok (.iaload, 1) := by decide +kernel
theorem dX5_record_102 : decode cX5_record 102 = .ok (.iconst 1, 1) := by decide +kernel
theorem dX5_record_103 : decode cX5_record 103 = .ok (.iadd, 1) := by decide +kernel
theorem dX5_record_104 : decode cX5_record 104 = .ok (.iastore, 1) := by decide +kernel
theorem dX5_record_105 : decode cX5_record 105 = .ok (.iconst (-1), 1) := by decide +kernel
theorem dX5_record_106 : decode cX5_record 106 = .ok (.ireturn, 1) := by decide +kernel
theorem dX5_record_107 : decode cX5_record 107 = .ok (.aload_n 0, 1) := by decide +kernel
theorem dX5_record_108 : decode cX5_record 108 = .ok (.iload_n 1, 1) := by decide +kernel
theorem dX5_record_109 : decode cX5_record 109 = .ok (.iload_n 3, 1) := by decide +kernel
theorem dX5_record_110 : decode cX5_record 110 = .ok (.iload 4, 2) := by decide +kernel
theorem dX5_record_112 : decode cX5_record 112 = .ok (.iload 5, 2) := by decide +kernel
theorem dX5_record_114 : decode cX5_record 114 = .ok (.invokevirtual 103, 3) := by decide +kernel
theorem dX5_record_117 : decode cX5_record 117 = .ok (.istore 7, 2) := by decide +kernel
theorem dX5_record_119 : decode cX5_record 119 = .ok (.iload 7, 2) := by decide +kernel
theorem dX5_record_121 : decode cX5_record 121 = .ok (.bipush 60, 2) := by decide +kernel
theorem dX5_record_123 : decode cX5_record 123 = .ok (.if_icmp .ne 9, 3) := by decide +kernel
theorem dX5_record_126 : decode cX5_record 126 = .ok (.aload_n 0, 1) := by decide +kernel
theorem dX5_record_127 : decode cX5_record 127 = .ok (.iconst 2, 1) := by decide +kernel
theorem dX5_record_128 : decode cX5_record 128 = .ok (.invokevirtual 107, 3) := by decide +kernel
theorem dX5_record_131 : decode cX5_record 131 = .ok (.ireturn, 1) := by decide +kernel
theorem dX5_record_132 : decode cX5_record 132 = .ok (.aload_n 0, 1) := by decide +kernel
theorem dX5_record_133 : decode cX5_record 133 = .ok (.getfield 13, 3) := by decide +kernel
theorem dX5_record_136 : decode cX5_record 136 = .ok (.iload 6, 2) := by decide +kernel
theorem dX5_record_138 : decode cX5_record 138 = .ok (.dup2, 1) := by decide +kernel
theorem dX5_record_139 : decode cX5_record 139 = .ok (.laload, 1) := by decide +kernel
theorem dX5_record_140 : decode cX5_record 140 = .ok (.lconst 1, 1) := by decide +kernel
theorem dX5_record_141 : decode cX5_record 141 = .ok (.iload_n 2, 1) := by decide +kernel
theorem dX5_record_142 : decode cX5_record 142 = .ok (.bipush 64, 2) := by decide +kernel
theorem dX5_record_144 : decode cX5_record 144 = .ok (.irem, 1) := by decide +kernel
theorem dX5_record_145 : decode cX5_record 145 = .ok (.lshl, 1) := by decide +kernel
theorem dX5_record_146 : decode cX5_record 146 = .ok (.lor, 1) := by decide +kernel
theorem dX5_record_147 : decode cX5_record 147 = .ok (.lastore, 1) := by decide +kernel
theorem dX5_record_148 : decode cX5_record 148 = .ok (.aload_n 0, 1) := by decide +kernel
theorem dX5_record_149 : decode cX5_record 149 = .ok (.getfield 21, 3) := by decide +kernel
theorem dX5_record_152 : decode cX5_record 152 = .ok (.iload_n 1, 1) := by decide +kernel
theorem dX5_record_153 : decode cX5_record 153 = .ok (.aload_n 0, 1) := by decide +kernel
theorem dX5_record_154 : decode cX5_record 154 = .ok (.getfield 17, 3) := by decide +kernel
theorem dX5_record_157 : decode cX5_record 157 = .ok (.iload_n 1, 1) := by decide +kernel
theorem dX5_record_158 : decode cX5_record 158 = .ok (.iaload, 1) := by decide +kernel
theorem dX5_record_159 : decode cX5_record 159 = .ok (.ifCond .eq 13, 3) := by decide +kernel
theorem dX5_record_162 : decode cX5_record 162 = .ok (.iload_n 2, 1) := by decide +kernel
theorem dX5_record_163 : decode cX5_record 163 = .ok (.aload_n 0, 1) := by decide +kernel
theorem dX5_record_164 : decode cX5_record 164 = .ok (.getfield 21, 3) := by decide +kernel
theorem dX5_record_167 : decode cX5_record 167 = .ok (.iload_n 1, 1) := by decide +kernel
theorem dX5_record_168 : decode cX5_record 168 = .ok (.iaload, 1) := by decide +kernel
theorem dX5_record_169 : decode cX5_record 169 = .ok (.if_icmp .ge 7, 3) := by decide +kernel
theorem dX5_record_172 : decode cX5_record 172 = .ok (.iload_n 2, 1) := by decide +kernel
theorem dX5_record_173 : decode cX5_record 173 = .ok (.goto 9, 3) := by decide +kernel
theorem dX5_record_176 : decode cX5_record 176 = .ok (.aload_n 0, 1) := by decide +kernel
theorem dX5_record_177 : decode cX5_record 177 = .ok (.getfield 21, 3) := by decide +kernel
theorem dX5_record_180 : decode cX5_record 180 = .ok (.iload_n 1, 1) := by decide +kernel
theorem dX5_record_181 : decode cX5_record 181 = .ok (.iaload, 1) := by decide +kernel
theorem dX5_record_182 : decode cX5_record 182 = .ok (.iastore, 1) := by decide +kernel
theorem dX5_record_183 : decode cX5_record 183 = .ok (.aload_n 0, 1) := by decide +kernel
theorem dX5_record_184 : decode cX5_record 184 = .ok (.getfield 24, 3) := by decide +kernel
theorem dX5_record_187 : decode cX5_record 187 = .ok (.iload_n 1, 1) := by decide +kernel
theorem dX5_record_188 : decode cX5_record 188 = .ok (.aload_n 0, 1) := by decide +kernel
theorem dX5_record_189 : decode cX5_record 189 = .ok (.getfield 17, 3) := by decide +kernel
theorem dX5_record_192 : decode cX5_record 192 = .ok (.iload_n 1, 1) := by decide +kernel
theorem dX5_record_193 : decode cX5_record 193 = .ok (.iaload, 1) := by decide +kernel
theorem dX5_record_194 : decode cX5_record 194 = .ok (.ifCond .eq 13, 3) := by decide +kernel
theorem dX5_record_197 : decode cX5_record 197 = .ok (.iload_n 2, 1) := by decide +kernel
theorem dX5_record_198 : decode cX5_record 198 = .ok (.aload_n 0, 1) := by decide +kernel
theorem dX5_record_199 : decode cX5_record 199 = .ok (.getfield 24, 3) := by decide +kernel
theorem dX5_record_202 : decode cX5_record 202 = .ok (.iload_n 1, 1) := by decide +kernel
theorem dX5_record_203 : decode cX5_record 203 = .ok (.iaload, 1) := by decide +kernel
theorem dX5_record_204 : decode cX5_record 204 = .ok (.if_icmp .le 7, 3) := by decide +kernel
theorem dX5_record_207 : decode cX5_record 207 = .ok (.iload_n 2, 1) := by decide +kernel
theorem dX5_record_208 : decode cX5_record 208 = .ok (.goto 9, 3) := by decide +kernel
theorem dX5_record_211 : decode cX5_record 211 = .ok (.aload_n 0, 1) := by decide +kernel
theorem dX5_record_212 : decode cX5_record 212 = .ok (.getfield 24, 3) := by decide +kernel
theorem dX5_record_215 : decode cX5_record 215 = .ok (.iload_n 1, 1) := by decide +kernel
theorem dX5_record_216 : decode cX5_record 216 = .ok (.iaload, 1) := by decide +kernel
theorem dX5_record_217 : decode cX5_record 217 = .ok (.iastore, 1) := by decide +kernel
theorem dX5_record_218 : decode cX5_record 218 = .ok (.aload_n 0, 1) := by decide +kernel
theorem dX5_record_219 : decode cX5_record 219 = .ok (.getfield 17, 3) := by decide +kernel
theorem dX5_record_222 : decode cX5_record 222 = .ok (.iload_n 1, 1) := by decide +kernel
theorem dX5_record_223 : decode cX5_record 223 = .ok (.dup2, 1) := by decide +kernel
theorem dX5_record_224 : decode cX5_record 224 = .ok (.iaload, 1) := by decide +kernel
theorem dX5_record_225 : decode cX5_record 225 = .ok (.iconst 1, 1) := by decide +kernel
theorem dX5_record_226 : decode cX5_record 226 = .ok (.iadd, 1) := by decide +kernel
theorem dX5_record_227 : decode cX5_record 227 = .ok (.iastore, 1) := by decide +kernel
theorem dX5_record_228 : decode cX5_record 228 = .ok (.iload 7, 2) := by decide +kernel
theorem dX5_record_230 : decode cX5_record 230 = .ok (.aload_n 0, 1) := by decide +kernel
theorem dX5_record_231 : decode cX5_record 231 = .ok (.getfield 91, 3) := by decide +kernel
theorem dX5_record_234 : decode cX5_record 234 = .ok (.if_icmp .ne 39, 3) := by decide +kernel
theorem dX5_record_237 : decode cX5_record 237 = .ok (.aload_n 0, 1) := by decide +kernel
theorem dX5_record_238 : decode cX5_record 238 = .ok (.getfield 30, 3) := by decide +kernel
theorem dX5_record_241 : decode cX5_record 241 = .ok (.iload 7, 2) := by decide +kernel
theorem dX5_record_243 : decode cX5_record 243 = .ok (.iload_n 3, 1) := by decide +kernel
theorem dX5_record_244 : decode cX5_record 244 = .ok (.iastore, 1) := by decide +kernel
theorem dX5_record_245 : decode cX5_record 245 = .ok (.aload_n 0, 1) := by decide +kernel
theorem dX5_record_246 : decode cX5_record 246 = .ok (.getfield 33, 3) := by decide +kernel
theorem dX5_record_249 : decode cX5_record 249 = .ok (.iload 7, 2) := by decide +kernel
theorem dX5_record_251 : decode cX5_record 251 = .ok (.iload 4, 2) := by decide +kernel
theorem dX5_record_253 : decode cX5_record 253 = .ok (.iastore, 1) := by decide +kernel
theorem dX5_record_254 : decode cX5_record 254 = .ok (.aload_n 0, 1) := by decide +kernel
theorem dX5_record_255 : decode cX5_record 255 = .ok (.getfield 36, 3) := by decide +kernel
theorem dX5_record_258 : decode cX5_record 258 = .ok (.iload 7, 2) := by decide +kernel
theorem dX5_record_260 : decode cX5_record 260 = .ok (.iload 5, 2) := by decide +kernel
theorem dX5_record_262 : decode cX5_record 262 = .ok (.iastore, 1) := by decide +kernel
theorem dX5_record_263 : decode cX5_record 263 = .ok (.aload_n 0, 1) := by decide +kernel
theorem dX5_record_264 : decode cX5_record 264 = .ok (.dup, 1) := by decide +kernel
theorem dX5_record_265 : decode cX5_record 265 = .ok (.getfield 91, 3) := by decide +kernel
theorem dX5_record_268 : decode cX5_record 268 = .ok (.iconst 1, 1) := by decide +kernel
theorem dX5_record_269 : decode cX5_record 269 = .ok (.iadd, 1) := by decide +kernel
theorem dX5_record_270 : decode cX5_record 270 = .ok (.putfield 91, 3) := by decide +kernel
theorem dX5_record_273 : decode cX5_record 273 = .ok (.aload_n 0, 1) := by decide +kernel
theorem dX5_record_274 : decode cX5_record 274 = .ok (.getfield 42, 3) := by decide +kernel
theorem dX5_record_277 : decode cX5_record 277 = .ok (.iload 7, 2) := by decide +kernel
theorem dX5_record_279 : decode cX5_record 279 = .ok (.dup2, 1) := by decide +kernel
theorem dX5_record_280 : decode cX5_record 280 = .ok (.iaload, 1) := by decide +kernel
theorem dX5_record_281 : decode cX5_record 281 = .ok (.iconst 1, 1) := by decide +kernel
theorem dX5_record_282 : decode cX5_record 282 = .ok (.iload_n 1, 1) := by decide +kernel
theorem dX5_record_283 : decode cX5_record 283 = .ok (.ishl, 1) := by decide +kernel
theorem dX5_record_284 : decode cX5_record 284 = .ok (.iadd, 1) := by decide +kernel
theorem dX5_record_285 : decode cX5_record 285 = .ok (.iastore, 1) := by decide +kernel
theorem dX5_record_286 : decode cX5_record 286 = .ok (.aload_n 0, 1) := by decide +kernel
theorem dX5_record_287 : decode cX5_record 287 = .ok (.getfield 39, 3) := by decide +kernel
theorem dX5_record_290 : decode cX5_record 290 = .ok (.iload 7, 2) := by decide +kernel
theorem dX5_record_292 : decode cX5_record 292 = .ok (.iload 5, 2) := by decide +kernel
theorem dX5_record_294 : decode cX5_record 294 = .ok (.aload_n 0, 1) := by decide +kernel
theorem dX5_record_295 : decode cX5_record 295 = .ok (.getfield 39, 3) := by decide +kernel
theorem dX5_record_298 : decode cX5_record 298 = .ok (.iload 7, 2) := by decide +kernel
theorem dX5_record_300 : decode cX5_record 300 = .ok (.iaload, 1) := by decide +kernel
theorem dX5_record_301 : decode cX5_record 301 = .ok (.if_icmp .le 8, 3) := by decide +kernel
theorem dX5_record_304 : decode cX5_record 304 = .ok (.iload 5, 2) := by decide +kernel
theorem dX5_record_306 : decode cX5_record 306 = .ok (.goto 10, 3) := by decide +kernel
theorem dX5_record_309 : decode cX5_record 309 = .ok (.aload_n 0, 1) := by decide +kernel
theorem dX5_record_310 : decode cX5_record 310 = .ok (.getfield 39, 3) := by decide +kernel
theorem dX5_record_313 : decode cX5_record 313 = .ok (.iload 7, 2) := by decide +kernel
theorem dX5_record_315 : decode cX5_record 315 = .ok (.iaload, 1) := by decide +kernel
theorem dX5_record_316 : decode cX5_record 316 = .ok (.iastore, 1) := by decide +kernel
theorem dX5_record_317 : decode cX5_record 317 = .ok (.iload 7, 2) := by decide +kernel
theorem dX5_record_319 : decode cX5_record 319 = .ok (.ireturn, 1) := by decide +kernel
set_option maxRecDepth 20000 in
theorem ggX5_gaps_X5_in : GoodIn wsX5_gaps wsX5_in := goodIn_r _ [7] (by decide +kernel) (by decide +kernel)
set_option maxRecDepth 20000 in
theorem gX5_gaps_X5_in : GoodIn wsX5_gaps (va_wsS RX5 82 yX5_in wsX5_in) := goodIn_app (goodIn_of _ (by decide +kernel)) ggX5_gaps_X5_in
set_option maxRecDepth 20000 in
theorem ggX5_gaps_X5_asks : GoodIn wsX5_gaps wsX5_asks := goodIn_r _ [11, 12, 13, 14, 15, 16, 17, 18, 19, 20, 21, 22, 23, 24, 25, 26, 27, 28, 29, 30, 31, 32, 33, 34, 35, 36, 37, 38] (by decide +kernel) (by decide +kernel)
set_option maxRecDepth 20000 in
theorem gX5_gaps_X5_asks : GoodIn wsX5_gaps (wsV RX5 87 RX5 yX5_asks wsX5_asks) := goodIn_app (goodIn_of _ (by decide +kernel)) ggX5_gaps_X5_asks
theorem dX5_gaps_0 : decode cX5_gaps 0 = .ok (.aload_n 0, 1) := by decide +kernel
theorem dX5_gaps_1 : decode cX5_gaps 1 = .ok (.iload_n 1, 1) := by decide +kernel
theorem dX5_gaps_2 : decode cX5_gaps 2 = .ok (.iconst 0, 1) := by decide +kernel
theorem dX5_gaps_3 : decode cX5_gaps 3 = .ok (.iconst 2, 1) := by decide +kernel
theorem dX5_gaps_4 : decode cX5_gaps 4 = .ok (.invokestatic 82, 3) := by decide +kernel
theorem dX5_gaps_7 : decode cX5_gaps 7 = .ok (.invokevirtual 87, 3) := by decide +kernel
theorem dX5_gaps_10 : decode cX5_gaps 10 = .ok (.ifCond .ne 5, 3) := by decide +kernel
theorem dX5_gaps_13 : decode cX5_gaps 13 = .ok (.iconst 0, 1) := by decide +kernel
theorem dX5_gaps_14 : decode cX5_gaps 14 = .ok (.ireturn, 1) := by decide +kernel
theorem dX5_gaps_15 : decode cX5_gaps 15 = .ok (.aload_n 0, 1) := by decide +kernel
theorem dX5_gaps_16 : decode cX5_gaps 16 = .ok (.getfield 17, 3) := by decide +kernel
theorem dX5_gaps_19 : decode cX5_gaps 19 = .ok (.iload_n 1, 1) := by decide +kernel
theorem dX5_gaps_20 : decode cX5_gaps 20 = .ok (.iaload, 1) := by decide +kernel
theorem dX5_gaps_21 : decode cX5_gaps 21 = .ok (.ifCond .ne 7, 3) := by decide +kernel
theorem dX5_gaps_24 : decode cX5_gaps 24 = .ok (.iconst 0, 1) := by decide +kernel
theorem dX5_gaps_25 : decode cX5_gaps 25 = .ok (.goto 25, 3) := by decide +kernel
theorem dX5_gaps_28 : decode cX5_gaps 28 = .ok (.aload_n 0, 1) := by decide +kernel
theorem dX5_gaps_29 : decode cX5_gaps 29 = .ok (.getfield 24, 3) := by decide +kernel
theorem dX5_gaps_32 : decode cX5_gaps 32 = .ok (.iload_n 1, 1) := by decide +kernel
theorem dX5_gaps_33 : decode cX5_gaps 33 = .ok (.iaload, 1) := by decide +kernel
theorem dX5_gaps_34 : decode cX5_gaps 34 = .ok (.aload_n 0, 1) := by decide +kernel
theorem dX5_gaps_35 : decode cX5_gaps 35 = .ok (.getfield 21, 3) := by decide +kernel
theorem dX5_gaps_38 : decode cX5_gaps 38 = .ok (.iload_n 1, 1) := by decide +kernel
theorem dX5_gaps_39 : decode cX5_gaps 39 = .ok (.iaload, 1) := by decide +kernel
theorem dX5_gaps_40 : decode cX5_gaps 40 = .ok (.isub, 1) := by decide +kernel
theorem dX5_gaps_41 : decode cX5_gaps 41 = .ok (.iconst 1, 1) := by decide +kernel
theorem dX5_gaps_42 : decode cX5_gaps 42 = .ok (.iadd, 1) := by decide +kernel
theorem dX5_gaps_43 : decode cX5_gaps 43 = .ok (.aload_n 0, 1) := by decide +kernel
theorem dX5_gaps_44 : decode cX5_gaps 44 = .ok (.getfield 17, 3) := by decide +kernel
theorem dX5_gaps_47 : decode cX5_gaps 47 = .ok (.iload_n 1, 1) := by decide +kernel
theorem dX5_gaps_48 : decode cX5_gaps 48 = .ok (.iaload, 1) := by decide +kernel
theorem dX5_gaps_49 : decode cX5_gaps 49 = .ok (.isub, 1) := by decide +kernel
theorem dX5_gaps_50 : decode cX5_gaps 50 = .ok (.ireturn, 1) := by decide +kernel
set_option maxRecDepth 20000 in
theorem ggX5_doubles_X5_in : GoodIn wsX5_doubles wsX5_in := goodIn_r _ [5] (by decide +kernel) (by decide +kernel)
set_option maxRecDepth 20000 in
theorem gX5_doubles_X5_in : GoodIn wsX5_doubles (va_wsS RX5 82 yX5_in wsX5_in) := goodIn_app (goodIn_of _ (by decide +kernel)) ggX5_doubles_X5_in
set_option maxRecDepth 20000 in
theorem ggX5_doubles_X5_asks : GoodIn wsX5_doubles wsX5_asks := goodIn_r _ [9, 10, 11, 12, 13, 14, 15, 16, 17, 18, 19, 20, 21, 22, 23, 24, 25, 26, 27, 28, 29, 30, 31, 32, 33, 34, 35, 36] (by decide +kernel) (by decide +kernel)
set_option maxRecDepth 20000 in
theorem gX5_doubles_X5_asks : GoodIn wsX5_doubles (wsV RX5 87 RX5 yX5_asks wsX5_asks) := goodIn_app (goodIn_of _ (by decide +kernel)) ggX5_doubles_X5_asks
theorem dX5_doubles_0 : decode cX5_doubles 0 = .ok (.aload_n 0, 1) := by decide +kernel
theorem dX5_doubles_1 : decode cX5_doubles 1 = .ok (.iload_n 1, 1) := by decide +kernel
theorem dX5_doubles_2 : decode cX5_doubles 2 = .ok (.iconst 0, 1) := by decide +kernel
theorem dX5_doubles_3 : decode cX5_doubles 3 = .ok (.iconst 2, 1) := by decide +kernel
theorem dX5_doubles_4 : decode cX5_doubles 4 = .ok (.invokestatic 82, 3) := by decide +kernel
theorem dX5_doubles_7 : decode cX5_doubles 7 = .ok (.invokevirtual 87, 3) := by decide +kernel
theorem dX5_doubles_10 : decode cX5_doubles 10 = .ok (.ifCond .eq 12, 3) := by decide +kernel
theorem dX5_doubles_13 : decode cX5_doubles 13 = .ok (.aload_n 0, 1) := by decide +kernel
theorem dX5_doubles_14 : decode cX5_doubles 14 = .ok (.getfield 27, 3) := by decide +kernel
theorem dX5_doubles_17 : decode cX5_doubles 17 = .ok (.iload_n 1, 1) := by decide +kernel
theorem dX5_doubles_18 : decode cX5_doubles 18 = .ok (.iaload, 1) := by decide +kernel
theorem dX5_doubles_19 : decode cX5_doubles 19 = .ok (.goto 4, 3) := by decide +kernel
theorem dX5_doubles_22 : decode cX5_doubles 22 = .ok (.iconst 0, 1) := by decide +kernel
theorem dX5_doubles_23 : decode cX5_doubles 23 = .ok (.ireturn, 1) := by decide +kernel
theorem dX5_calls_0 : decode cX5_calls 0 = .ok (.aload_n 0, 1) := by decide +kernel
theorem dX5_calls_1 : decode cX5_calls 1 = .ok (.iconst 0, 1) := by decide +kernel
theorem dX5_calls_2 : decode cX5_calls 2 = .ok (.putfield 78, 3) := by decide +kernel
theorem dX5_calls_5 : decode cX5_calls 5 = .ok (.aload_n 0, 1) := by decide +kernel
theorem dX5_calls_6 : decode cX5_calls 6 = .ok (.getfield 91, 3) := by decide +kernel
theorem dX5_calls_9 : decode cX5_calls 9 = .ok (.ireturn, 1) := by decide +kernel
theorem dX5_isCall_0 : decode cX5_isCall 0 = .ok (.iload_n 1, 1) := by decide +kernel
theorem dX5_isCall_1 : decode cX5_isCall 1 = .ok (.ifCond .lt 15, 3) := by decide +kernel
theorem dX5_isCall_4 : decode cX5_isCall 4 = .ok (.iload_n 1, 1) := by decide +kernel
theorem dX5_isCall_5 : decode cX5_isCall 5 = .ok (.aload_n 0, 1) := by decide +kernel
theorem dX5_isCall_6 : decode cX5_isCall 6 = .ok (.getfield 91, 3) := by decide +kernel
theorem dX5_isCall_9 : decode cX5_isCall 9 = .ok (.if_icmp .ge 7, 3) := by decide +kernel
theorem dX5_isCall_12 : decode cX5_isCall 12 = .ok (.iconst 1, 1) := by decide +kernel
theorem dX5_isCall_13 : decode cX5_isCall 13 = .ok (.goto 4, 3) := by decide +kernel
theorem dX5_isCall_16 : decode cX5_isCall 16 = .ok (.iconst 0, 1) := by decide +kernel
theorem dX5_isCall_17 : decode cX5_isCall 17 = .ok (.ireturn, 1) := by decide +kernel
set_option maxRecDepth 20000 in
theorem ggX5_legs_X5_isCall : GoodIn wsX5_legs wsX5_isCall := goodIn_r _ [6, 7, 13, 14, 15, 16, 17, 18, 19, 20, 21, 22, 23, 24, 25, 26, 27, 28, 29, 30, 31, 32, 33, 34, 35, 36, 37, 38] (by decide +kernel) (by decide +kernel)
set_option maxRecDepth 20000 in
theorem gX5_legs_X5_isCall : GoodIn wsX5_legs (wsV RX5 111 RX5 yX5_isCall wsX5_isCall) := goodIn_app (goodIn_of _ (by decide +kernel)) ggX5_legs_X5_isCall
set_option maxRecDepth 20000 in
theorem ggX5_legs_X5_asks : GoodIn wsX5_legs wsX5_asks := goodIn_r _ [11, 12, 13, 14, 15, 16, 17, 18, 19, 20, 21, 22, 23, 24, 25, 26, 27, 28, 29, 30, 31, 32, 33, 34, 35, 36, 37, 38] (by decide +kernel) (by decide +kernel)
set_option maxRecDepth 20000 in
theorem gX5_legs_X5_asks : GoodIn wsX5_legs (wsV RX5 87 RX5 yX5_asks wsX5_asks) := goodIn_app (goodIn_of _ (by decide +kernel)) ggX5_legs_X5_asks
theorem dX5_legs_0 : decode cX5_legs 0 = .ok (.aload_n 0, 1) := by decide +kernel
theorem dX5_legs_1 : decode cX5_legs 1 = .ok (.aload_n 0, 1) := by decide +kernel
theorem dX5_legs_2 : decode cX5_legs 2 = .ok (.iload_n 1, 1) := by decide +kernel
theorem dX5_legs_3 : decode cX5_legs 3 = .ok (.invokevirtual 111, 3) := by decide +kernel
theorem dX5_legs_6 : decode cX5_legs 6 = .ok (.invokevirtual 87, 3) := by decide +kernel
theorem dX5_legs_9 : decode cX5_legs 9 = .ok (.ifCond .eq 12, 3) := by decide +kernel
theorem dX5_legs_12 : decode cX5_legs 12 = .ok (.aload_n 0, 1) := by decide +kernel
theorem dX5_legs_13 : decode cX5_legs 13 = .ok (.getfield 42, 3) := by decide +kernel
theorem dX5_legs_16 : decode cX5_legs 16 = .ok (.iload_n 1, 1) := by decide +kernel
theorem dX5_legs_17 : decode cX5_legs 17 = .ok (.iaload, 1) := by decide +kernel
theorem dX5_legs_18 : decode cX5_legs 18 = .ok (.goto 4, 3) := by decide +kernel
theorem dX5_legs_21 : decode cX5_legs 21 = .ok (.iconst 0, 1) := by decide +kernel
theorem dX5_legs_22 : decode cX5_legs 22 = .ok (.ireturn, 1) := by decide +kernel
set_option maxRecDepth 20000 in
theorem ggX5_length_X5_isCall : GoodIn wsX5_length wsX5_isCall := goodIn_r _ [6, 7, 13, 14, 15, 16, 17, 18, 19, 20, 21, 22, 23, 24, 25, 26, 27, 28, 29, 30, 31, 32, 33, 34, 35, 36, 37, 38] (by decide +kernel) (by decide +kernel)
set_option maxRecDepth 20000 in
theorem gX5_length_X5_isCall : GoodIn wsX5_length (wsV RX5 111 RX5 yX5_isCall wsX5_isCall) := goodIn_app (goodIn_of _ (by decide +kernel)) ggX5_length_X5_isCall
set_option maxRecDepth 20000 in
theorem ggX5_length_X5_asks : GoodIn wsX5_length wsX5_asks := goodIn_r _ [11, 12, 13, 14, 15, 16, 17, 18, 19, 20, 21, 22, 23, 24, 25, 26, 27, 28, 29, 30, 31, 32, 33, 34, 35, 36, 37, 38] (by decide +kernel) (by decide +kernel)
set_option maxRecDepth 20000 in
theorem gX5_length_X5_asks : GoodIn wsX5_length (wsV RX5 87 RX5 yX5_asks wsX5_asks) := goodIn_app (goodIn_of _ (by decide +kernel)) ggX5_length_X5_asks
theorem dX5_length_0 : decode cX5_length 0 = .ok (.aload_n 0, 1) := by decide +kernel
theorem dX5_length_1 : decode cX5_length 1 = .ok (.aload_n 0, 1) := by decide +kernel
theorem dX5_length_2 : decode cX5_length 2 = .ok (.iload_n 1, 1) := by decide +kernel
theorem dX5_length_3 : decode cX5_length 3 = .ok (.invokevirtual 111, 3) := by decide +kernel
theorem dX5_length_6 : decode cX5_length 6 = .ok (.invokevirtual 87, 3) := by decide +kernel
theorem dX5_length_9 : decode cX5_length 9 = .ok (.ifCond .eq 12, 3) := by decide +kernel
theorem dX5_length_12 : decode cX5_length 12 = .ok (.aload_n 0, 1) := by decide +kernel
theorem dX5_length_13 : decode cX5_length 13 = .ok (.getfield 39, 3) := by decide +kernel
theorem dX5_length_16 : decode cX5_length 16 = .ok (.iload_n 1, 1) := by decide +kernel
theorem dX5_length_17 : decode cX5_length 17 = .ok (.iaload, 1) := by decide +kernel
theorem dX5_length_18 : decode cX5_length 18 = .ok (.goto 4, 3) := by decide +kernel
theorem dX5_length_21 : decode cX5_length 21 = .ok (.iconst 0, 1) := by decide +kernel
theorem dX5_length_22 : decode cX5_length 22 = .ok (.ireturn, 1) := by decide +kernel
set_option maxRecDepth 20000 in
theorem ggX5_addRate_X5_isPrefix : GoodIn wsX5_addRate wsX5_isPrefix := goodIn_r _ [11, 12, 13, 14, 10, 15] (by decide +kernel) (by decide +kernel)
set_option maxRecDepth 20000 in
theorem gX5_addRate_X5_isPrefix : GoodIn wsX5_addRate (va_wsS RX5 114 yX5_isPrefix wsX5_isPrefix) := goodIn_app (goodIn_of _ (by decide +kernel)) ggX5_addRate_X5_isPrefix
set_option maxRecDepth 20000 in
theorem ggX5_addRate_X5_in : GoodIn wsX5_addRate wsX5_in := goodIn_r _ [15] (by decide +kernel) (by decide +kernel)
set_option maxRecDepth 20000 in
theorem gX5_addRate_X5_in : GoodIn wsX5_addRate (va_wsS RX5 82 yX5_in wsX5_in) := goodIn_app (goodIn_of _ (by decide +kernel)) ggX5_addRate_X5_in
set_option maxRecDepth 20000 in
theorem ggX5_addRate_X5_asks : GoodIn wsX5_addRate wsX5_asks := goodIn_r _ [19, 20, 25, 26, 27, 28, 29, 30, 31, 32, 33, 34, 35, 36, 37, 38, 39, 40, 41, 42, 43, 44, 45, 46, 47, 48, 49, 50] (by decide +kernel) (by decide +kernel)
set_option maxRecDepth 20000 in
theorem gX5_addRate_X5_asks : GoodIn wsX5_addRate (wsV RX5 87 RX5 yX5_asks wsX5_asks) := goodIn_app (goodIn_of _ (by decide +kernel)) ggX5_addRate_X5_asks
set_option maxRecDepth 20000 in
theorem ggX5_addRate_X5_fails : GoodIn wsX5_addRate wsX5_fails := goodIn_r _ [24, 20, 25, 26, 27, 28, 29, 30, 31, 32, 33, 34, 35, 36, 37, 38, 39, 40, 41, 42, 43, 44, 45, 46, 47, 48, 49, 50] (by decide +kernel) (by decide +kernel)
set_option maxRecDepth 20000 in
theorem gX5_addRate_X5_fails : GoodIn wsX5_addRate (wsV RX5 107 RX5 yX5_fails wsX5_fails) := goodIn_app (goodIn_of _ (by decide +kernel)) ggX5_addRate_X5_fails
theorem dX5_addRate_0 : decode cX5_addRate 0 = .ok (.aload_n 0, 1) := by decide +kernel
theorem dX5_addRate_1 : decode cX5_addRate 1 = .ok (.iload_n 1, 1) := by decide +kernel
theorem dX5_addRate_2 : decode cX5_addRate 2 = .ok (.invokestatic 114, 3) := by decide +kernel
theorem dX5_addRate_5 : decode cX5_addRate 5 = .ok (.ifCond .eq 63, 3) := by decide +kernel
theorem dX5_addRate_8 : decode cX5_addRate 8 = .ok (.iload_n 2, 1) := by decide +kernel
theorem dX5_addRate_9 : decode cX5_addRate 9 = .ok (.iconst 0, 1) := by decide +kernel
theorem dX5_addRate_10 : decode cX5_addRate 10 = .ok (.sipush 999, 3) := by decide +kernel
theorem dX5_addRate_13 : decode cX5_addRate 13 = .ok (.invokestatic 82, 3) := by decide +kernel
theorem dX5_addRate_16 : decode cX5_addRate 16 = .ok (.ifCond .eq 52, 3) := by decide +kernel
theorem dX5_addRate_19 : decode cX5_addRate 19 = .ok (.iload_n 3, 1) := by decide +kernel
theorem dX5_addRate_20 : decode cX5_addRate 20 = .ok (.iconst 0, 1) := by decide +kernel
theorem dX5_addRate_21 : decode cX5_addRate 21 = .ok (.sipush 10000, 3) := by decide +kernel
theorem dX5_addRate_24 : decode cX5_addRate 24 = .ok (.invokestatic 82, 3) := by decide +kernel
theorem dX5_addRate_27 : decode cX5_addRate 27 = .ok (.ifCond .eq 41, 3) := by decide +kernel
theorem dX5_addRate_30 : decode cX5_addRate 30 = .ok (.iload 4, 2) := by decide +kernel
theorem dX5_addRate_32 : decode cX5_addRate 32 = .ok (.iconst 1, 1) := by decide +kernel
theorem dX5_addRate_33 : decode cX5_addRate 33 = .ok (.bipush 60, 2) := by decide +kernel
theorem dX5_addRate_35 : decode cX5_addRate 35 = .ok (.invokestatic 82, 3) := by decide +kernel
theorem dX5_addRate_38 : decode cX5_addRate 38 = .ok (.ifCond .eq 30, 3) := by decide +kernel
theorem dX5_addRate_41 : decode cX5_addRate 41 = .ok (.iload 5, 2) := by decide +kernel
theorem dX5_addRate_43 : decode cX5_addRate 43 = .ok (.iconst 0, 1) := by decide +kernel
theorem dX5_addRate_44 : decode cX5_addRate 44 = .ok (.bipush 120, 2) := by decide +kernel
theorem dX5_addRate_46 : decode cX5_addRate 46 = .ok (.invokestatic 82, 3) := by decide +kernel
theorem dX5_addRate_49 : decode cX5_addRate 49 = .ok (.ifCond .eq 19, 3) := by decide +kernel
theorem dX5_addRate_52 : decode cX5_addRate 52 = .ok (.iload 6, 2) := by decide +kernel
theorem dX5_addRate_54 : decode cX5_addRate 54 = .ok (.iconst 0, 1) := by decide +kernel
theorem dX5_addRate_55 : decode cX5_addRate 55 = .ok (.sipush 1000, 3) := by decide +kernel
theorem dX5_addRate_58 : decode cX5_addRate 58 = .ok (.invokestatic 82, 3) := by decide +kernel
theorem dX5_addRate_61 : decode cX5_addRate 61 = .ok (.ifCond .eq 7, 3) := by decide +kernel
theorem dX5_addRate_64 : decode cX5_addRate 64 = .ok (.iconst 1, 1) := by decide +kernel
theorem dX5_addRate_65 : decode cX5_addRate 65 = .ok (.goto 4, 3) := by decide +kernel
theorem dX5_addRate_68 : decode cX5_addRate 68 = .ok (.iconst 0, 1) := by decide +kernel
theorem dX5_addRate_69 : decode cX5_addRate 69 = .ok (.invokevirtual 87, 3) := by decide +kernel
theorem dX5_addRate_72 : decode cX5_addRate 72 = .ok (.ifCond .ne 5, 3) := by decide +kernel
theorem dX5_addRate_75 : decode cX5_addRate 75 = .ok (.iconst 0, 1) := by decide +kernel
theorem dX5_addRate_76 : decode cX5_addRate 76 = .ok (.ireturn, 1) := by decide +kernel
theorem dX5_addRate_77 : decode cX5_addRate 77 = .ok (.aload_n 0, 1) := by decide +kernel
theorem dX5_addRate_78 : decode cX5_addRate 78 = .ok (.getfield 117, 3) := by decide +kernel
theorem dX5_addRate_81 : decode cX5_addRate 81 = .ok (.bipush 30, 2) := by decide +kernel
theorem dX5_addRate_83 : decode cX5_addRate 83 = .ok (.if_icmp .ne 9, 3) := by decide +kernel
theorem dX5_addRate_86 : decode cX5_addRate 86 = .ok (.aload_n 0, 1) := by decide +kernel
theorem dX5_addRate_87 : decode cX5_addRate 87 = .ok (.iconst 2, 1) := by decide +kernel
theorem dX5_addRate_88 : decode cX5_addRate 88 = .ok (.invokevirtual 107, 3) := by decide +kernel
theorem dX5_addRate_91 : decode cX5_addRate 91 = .ok (.ireturn, 1) := by decide +kernel
theorem dX5_addRate_92 : decode cX5_addRate 92 = .ok (.aload_n 0, 1) := by decide +kernel
theorem dX5_addRate_93 : decode cX5_addRate 93 = .ok (.getfield 51, 3) := by decide +kernel
theorem dX5_addRate_96 : decode cX5_addRate 96 = .ok (.aload_n 0, 1) := by decide +kernel
theorem dX5_addRate_97 : decode cX5_addRate 97 = .ok (.getfield 117, 3) := by decide +kernel
theorem dX5_addRate_100 : decode cX5_addRate 100 = .ok (.iload_n 1, 1) := by decide +kernel
theorem dX5_addRate_101 : decode cX5_addRate 101 = .ok (.iastore, 1) := by decide +kernel
theorem dX5_addRate_102 : decode cX5_addRate 102 = .ok (.aload_n 0, 1) := by decide +kernel
theorem dX5_addRate_103 : decode cX5_addRate 103 = .ok (.getfield 54, 3) := by decide +kernel
theorem dX5_addRate_106 : decode cX5_addRate 106 = .ok (.aload_n 0, 1) := by decide +kernel
theorem dX5_addRate_107 : decode cX5_addRate 107 = .ok (.getfield 117, 3) := by decide +kernel
theorem dX5_addRate_110 : decode cX5_addRate 110 = .ok (.iload_n 2, 1) := by decide +kernel
theorem dX5_addRate_111 : decode cX5_addRate 111 = .ok (.iastore, 1) := by decide +kernel
theorem dX5_addRate_112 : decode cX5_addRate 112 = .ok (.aload_n 0, 1) := by decide +kernel
theorem dX5_addRate_113 : decode cX5_addRate 113 = .ok (.getfield 57, 3) := by decide +kernel
theorem dX5_addRate_116 : decode cX5_addRate 116 = .ok (.aload_n 0, 1) := by decide +kernel
theorem dX5_addRate_117 : decode cX5_addRate 117 = .ok (.getfield 117, 3) := by decide +kernel
theorem dX5_addRate_120 : decode cX5_addRate 120 = .ok (.iload_n 3, 1) := by decide +kernel
theorem dX5_addRate_121 : decode cX5_addRate 121 = .ok (.iastore, 1) := by decide +kernel
theorem dX5_addRate_122 : decode cX5_addRate 122 = .ok (.aload_n 0, 1) := by decide +kernel
theorem dX5_addRate_123 : decode cX5_addRate 123 = .ok (.getfield 60, 3) := by decide +kernel
theorem dX5_addRate_126 : decode cX5_addRate 126 = .ok (.aload_n 0, 1) := by decide +kernel
theorem dX5_addRate_127 : decode cX5_addRate 127 = .ok (.getfield 117, 3) := by decide +kernel
theorem dX5_addRate_130 : decode cX5_addRate 130 = .ok (.iload 4, 2) := by decide +kernel
theorem dX5_addRate_132 : decode cX5_addRate 132 = .ok (.iastore, 1) := by decide +kernel
theorem dX5_addRate_133 : decode cX5_addRate 133 = .ok (.aload_n 0, 1) := by decide +kernel
theorem dX5_addRate_134 : decode cX5_addRate 134 = .ok (.getfield 63, 3) := by decide +kernel
theorem dX5_addRate_137 : decode cX5_addRate 137 = .ok (.aload_n 0, 1) := by decide +kernel
theorem dX5_addRate_138 : decode cX5_addRate 138 = .ok (.getfield 117, 3) := by decide +kernel
theorem dX5_addRate_141 : decode cX5_addRate 141 = .ok (.iload 5, 2) := by decide +kernel
theorem dX5_addRate_143 : decode cX5_addRate 143 = .ok (.iastore, 1) := by decide +kernel
theorem dX5_addRate_144 : decode cX5_addRate 144 = .ok (.aload_n 0, 1) := by decide +kernel
theorem dX5_addRate_145 : decode cX5_addRate 145 = .ok (.getfield 66, 3) := by decide +kernel
theorem dX5_addRate_148 : decode cX5_addRate 148 = .ok (.aload_n 0, 1) := by decide +kernel
theorem dX5_addRate_149 : decode cX5_addRate 149 = .ok (.getfield 117, 3) := by decide +kernel
theorem dX5_addRate_152 : decode cX5_addRate 152 = .ok (.iload 6, 2) := by decide +kernel
theorem dX5_addRate_154 : decode cX5_addRate 154 = .ok (.iastore, 1) := by decide +kernel
theorem dX5_addRate_155 : decode cX5_addRate 155 = .ok (.aload_n 0, 1) := by decide +kernel
theorem dX5_addRate_156 : decode cX5_addRate 156 = .ok (.dup, 1) := by decide +kernel
theorem dX5_addRate_157 : decode cX5_addRate 157 = .ok (.getfield 117, 3) := by decide +kernel
theorem dX5_addRate_160 : decode cX5_addRate 160 = .ok (.iconst 1, 1) := by decide +kernel
theorem dX5_addRate_161 : decode cX5_addRate 161 = .ok (.iadd, 1) := by decide +kernel
theorem dX5_addRate_162 : decode cX5_addRate 162 = .ok (.putfield 117, 3) := by decide +kernel
theorem dX5_addRate_165 : decode cX5_addRate 165 = .ok (.aload_n 0, 1) := by decide +kernel
theorem dX5_addRate_166 : decode cX5_addRate 166 = .ok (.getfield 117, 3) := by decide +kernel
theorem dX5_addRate_169 : decode cX5_addRate 169 = .ok (.iconst 1, 1) := by decide +kernel
theorem dX5_addRate_170 : decode cX5_addRate 170 = .ok (.isub, 1) := by decide +kernel
theorem dX5_addRate_171 : decode cX5_addRate 171 = .ok (.ireturn, 1) := by decide +kernel
set_option maxRecDepth 20000 in
theorem ggX5_rate_X5_fits : GoodIn wsX5_rate wsX5_fits := goodIn_r _ [7] (by decide +kernel) (by decide +kernel)
set_option maxRecDepth 20000 in
theorem gX5_rate_X5_fits : GoodIn wsX5_rate (va_wsS RX5 120 yX5_fits wsX5_fits) := goodIn_app (goodIn_of _ (by decide +kernel)) ggX5_rate_X5_fits
theorem dX5_rate_0 : decode cX5_rate 0 = .ok (.iconst (-1), 1) := by decide +kernel
theorem dX5_rate_1 : decode cX5_rate 1 = .ok (.istore_n 3, 1) := by decide +kernel
theorem dX5_rate_2 : decode cX5_rate 2 = .ok (.iconst 0, 1) := by decide +kernel
theorem dX5_rate_3 : decode cX5_rate 3 = .ok (.istore 4, 2) := by decide +kernel
theorem dX5_rate_5 : decode cX5_rate 5 = .ok (.iload 4, 2) := by decide +kernel
theorem dX5_rate_7 : decode cX5_rate 7 = .ok (.aload_n 0, 1) := by decide +kernel
theorem dX5_rate_8 : decode cX5_rate 8 = .ok (.getfield 117, 3) := by decide +kernel
theorem dX5_rate_11 : decode cX5_rate 11 = .ok (.if_icmp .ge 106, 3) := by decide +kernel
theorem dX5_rate_14 : decode cX5_rate 14 = .ok (.aload_n 0, 1) := by decide +kernel
theorem dX5_rate_15 : decode cX5_rate 15 = .ok (.getfield 51, 3) := by decide +kernel
theorem dX5_rate_18 : decode cX5_rate 18 = .ok (.iload 4, 2) := by decide +kernel
theorem dX5_rate_20 : decode cX5_rate 20 = .ok (.iaload, 1) := by decide +kernel
theorem dX5_rate_21 : decode cX5_rate 21 = .ok (.iload_n 1, 1) := by decide +kernel
theorem dX5_rate_22 : decode cX5_rate 22 = .ok (.invokestatic 120, 3) := by decide +kernel
theorem dX5_rate_25 : decode cX5_rate 25 = .ok (.ifCond .eq 86, 3) := by decide +kernel
theorem dX5_rate_28 : decode cX5_rate 28 = .ok (.aload_n 0, 1) := by decide +kernel
theorem dX5_rate_29 : decode cX5_rate 29 = .ok (.getfield 54, 3) := by decide +kernel
theorem dX5_rate_32 : decode cX5_rate 32 = .ok (.iload 4, 2) := by decide +kernel
theorem dX5_rate_34 : decode cX5_rate 34 = .ok (.iaload, 1) := by decide +kernel
theorem dX5_rate_35 : decode cX5_rate 35 = .ok (.iload_n 2, 1) := by decide +kernel
theorem dX5_rate_36 : decode cX5_rate 36 = .ok (.if_icmp .gt 75, 3) := by decide +kernel
theorem dX5_rate_39 : decode cX5_rate 39 = .ok (.iload_n 3, 1) := by decide +kernel
theorem dX5_rate_40 : decode cX5_rate 40 = .ok (.iconst (-1), 1) := by decide +kernel
theorem dX5_rate_41 : decode cX5_rate 41 = .ok (.if_icmp .eq 51, 3) := by decide +kernel
theorem dX5_rate_44 : decode cX5_rate 44 = .ok (.aload_n 0, 1) := by decide +kernel
theorem dX5_rate_45 : decode cX5_rate 45 = .ok (.getfield 51, 3) := by decide +kernel
theorem dX5_rate_48 : decode cX5_rate 48 = .ok (.iload 4, 2) := by decide +kernel
theorem dX5_rate_50 : decode cX5_rate 50 = .ok (.iaload, 1) := by decide +kernel
theorem dX5_rate_51 : decode cX5_rate 51 = .ok (.aload_n 0, 1) := by decide +kernel
theorem dX5_rate_52 : decode cX5_rate 52 = .ok (.getfield 51, 3) := by decide +kernel
theorem dX5_rate_55 : decode cX5_rate 55 = .ok (.iload_n 3, 1) := by decide +kernel
theorem dX5_rate_56 : decode cX5_rate 56 = .ok (.iaload, 1) := by decide +kernel
theorem dX5_rate_57 : decode cX5_rate 57 = .ok (.if_icmp .gt 35, 3) := by decide +kernel
theorem dX5_rate_60 : decode cX5_rate 60 = .ok (.aload_n 0, 1) := by decide +kernel
theorem dX5_rate_61 : decode cX5_rate 61 = .ok (.getfield 51, 3) := by decide +kernel
theorem dX5_rate_64 : decode cX5_rate 64 = .ok (.iload 4, 2) := by decide +kernel
theorem dX5_rate_66 : decode cX5_rate 66 = .ok (.iaload, 1) := by decide +kernel
theorem dX5_rate_67 : decode cX5_rate 67 = .ok (.aload_n 0, 1) := by decide +kernel
theorem dX5_rate_68 : decode cX5_rate 68 = .ok (.getfield 51, 3) := by decide +kernel
theorem dX5_rate_71 : decode cX5_rate 71 = .ok (.iload_n 3, 1) := by decide +kernel
theorem dX5_rate_72 : decode cX5_rate 72 = .ok (.iaload, 1) := by decide +kernel
theorem dX5_rate_73 : decode cX5_rate 73 = .ok (.if_icmp .ne 23, 3) := by decide +kernel
theorem dX5_rate_76 : decode cX5_rate 76 = .ok (.aload_n 0, 1) := by decide +kernel
theorem dX5_rate_77 : decode cX5_rate 77 = .ok (.getfield 54, 3) := by decide +kernel
theorem dX5_rate_80 : decode cX5_rate 80 = .ok (.iload 4, 2) := by decide +kernel
theorem dX5_rate_82 : decode cX5_rate 82 = .ok (.iaload, 1) := by decide +kernel
theorem dX5_rate_83 : decode cX5_rate 83 = .ok (.aload_n 0, 1) := by decide +kernel
theorem dX5_rate_84 : decode cX5_rate 84 = .ok (.getfield 54, 3) := by decide +kernel
theorem dX5_rate_87 : decode cX5_rate 87 = .ok (.iload_n 3, 1) := by decide +kernel
theorem dX5_rate_88 : decode cX5_rate 88 = .ok (.iaload, 1) := by decide +kernel
theorem dX5_rate_89 : decode cX5_rate 89 = .ok (.if_icmp .lt 7, 3) := by decide +kernel
theorem dX5_rate_92 : decode cX5_rate 92 = .ok (.iconst 1, 1) := by decide +kernel
theorem dX5_rate_93 : decode cX5_rate 93 = .ok (.goto 4, 3) := by decide +kernel
theorem dX5_rate_96 : decode cX5_rate 96 = .ok (.iconst 0, 1) := by decide +kernel
theorem dX5_rate_97 : decode cX5_rate 97 = .ok (.istore 5, 2) := by decide +kernel
theorem dX5_rate_99 : decode cX5_rate 99 = .ok (.iload 5, 2) := by decide +kernel
theorem dX5_rate_101 : decode cX5_rate 101 = .ok (.ifCond .eq 8, 3) := by decide +kernel
theorem dX5_rate_104 : decode cX5_rate 104 = .ok (.iload 4, 2) := by decide +kernel
theorem dX5_rate_106 : decode cX5_rate 106 = .ok (.goto 4, 3) := by decide +kernel
theorem dX5_rate_109 : decode cX5_rate 109 = .ok (.iload_n 3, 1) := by decide +kernel
theorem dX5_rate_110 : decode cX5_rate 110 = .ok (.istore_n 3, 1) := by decide +kernel
theorem dX5_rate_111 : decode cX5_rate 111 = .ok (.iinc 4 1, 3) := by decide +kernel
theorem dX5_rate_114 : decode cX5_rate 114 = .ok (.goto (-109), 3) := by decide +kernel
theorem dX5_rate_117 : decode cX5_rate 117 = .ok (.iload_n 3, 1) := by decide +kernel
theorem dX5_rate_118 : decode cX5_rate 118 = .ok (.ireturn, 1) := by decide +kernel
set_option maxRecDepth 20000 in
theorem ggX5_rateFor_X5_isNumber : GoodIn wsX5_rateFor wsX5_isNumber := goodIn_r _ [4, 5, 6, 7, 3, 8] (by decide +kernel) (by decide +kernel)
set_option maxRecDepth 20000 in
theorem gX5_rateFor_X5_isNumber : GoodIn wsX5_rateFor (va_wsS RX5 98 yX5_isNumber wsX5_isNumber) := goodIn_app (goodIn_of _ (by decide +kernel)) ggX5_rateFor_X5_isNumber
set_option maxRecDepth 20000 in
theorem ggX5_rateFor_X5_in : GoodIn wsX5_rateFor wsX5_in := goodIn_r _ [8] (by decide +kernel) (by decide +kernel)
set_option maxRecDepth 20000 in
theorem gX5_rateFor_X5_in : GoodIn wsX5_rateFor (va_wsS RX5 82 yX5_in wsX5_in) := goodIn_app (goodIn_of _ (by decide +kernel)) ggX5_rateFor_X5_in
set_option maxRecDepth 20000 in
theorem ggX5_rateFor_X5_asks : GoodIn wsX5_rateFor wsX5_asks := goodIn_r _ [12, 13, 28, 29, 30, 31, 32, 33, 34, 35, 36, 37, 38, 39, 40, 41, 42, 43, 44, 45, 46, 47, 48, 49, 50, 51, 52, 53] (by decide +kernel) (by decide +kernel)
set_option maxRecDepth 20000 in
theorem gX5_rateFor_X5_asks : GoodIn wsX5_rateFor (wsV RX5 87 RX5 yX5_asks wsX5_asks) := goodIn_app (goodIn_of _ (by decide +kernel)) ggX5_rateFor_X5_asks
set_option maxRecDepth 20000 in
theorem ggX5_rateFor_X5_rate : GoodIn wsX5_rateFor wsX5_rate := goodIn_r _ [17, 18, 19, 20, 21, 22, 3, 23, 28, 29, 30, 31, 32, 33, 34, 35, 36, 37, 38, 39, 40, 41, 42, 43, 44, 45, 46, 47, 48, 49, 50, 51, 52, 53] (by decide +kernel) (by decide +kernel)
set_option maxRecDepth 20000 in
theorem gX5_rateFor_X5_rate : GoodIn wsX5_rateFor (wsV RX5 124 RX5 yX5_rate wsX5_rate) := goodIn_app (goodIn_of _ (by decide +kernel)) ggX5_rateFor_X5_rate
set_option maxRecDepth 20000 in
theorem ggX5_rateFor_X5_fails : GoodIn wsX5_rateFor wsX5_fails := goodIn_r _ [27, 13, 28, 29, 30, 31, 32, 33, 34, 35, 36, 37, 38, 39, 40, 41, 42, 43, 44, 45, 46, 47, 48, 49, 50, 51, 52, 53] (by decide +kernel) (by decide +kernel)
set_option maxRecDepth 20000 in
theorem gX5_rateFor_X5_fails : GoodIn wsX5_rateFor (wsV RX5 107 RX5 yX5_fails wsX5_fails) := goodIn_app (goodIn_of _ (by decide +kernel)) ggX5_rateFor_X5_fails
theorem dX5_rateFor_0 : decode cX5_rateFor 0 = .ok (.aload_n 0, 1) := by decide +kernel
theorem dX5_rateFor_1 : decode cX5_rateFor 1 = .ok (.iload_n 1, 1) := by decide +kernel
theorem dX5_rateFor_2 : decode cX5_rateFor 2 = .ok (.invokestatic 98, 3) := by decide +kernel
theorem dX5_rateFor_5 : decode cX5_rateFor 5 = .ok (.ifCond .eq 18, 3) := by decide +kernel
theorem dX5_rateFor_8 : decode cX5_rateFor 8 = .ok (.iload_n 2, 1) := by decide +kernel
theorem dX5_rateFor_9 : decode cX5_rateFor 9 = .ok (.iconst 0, 1) := by decide +kernel
theorem dX5_rateFor_10 : decode cX5_rateFor 10 = .ok (.sipush 999, 3) := by decide +kernel
theorem dX5_rateFor_13 : decode cX5_rateFor 13 = .ok (.invokestatic 82, 3) := by decide +kernel
theorem dX5_rateFor_16 : decode cX5_rateFor 16 = .ok (.ifCond .eq 7, 3) := by decide +kernel
theorem dX5_rateFor_19 : decode cX5_rateFor 19 = .ok (.iconst 1, 1) := by decide +kernel
theorem dX5_rateFor_20 : decode cX5_rateFor 20 = .ok (.goto 4, 3) := by decide +kernel
theorem dX5_rateFor_23 : decode cX5_rateFor 23 = .ok (.iconst 0, 1) := by decide +kernel
theorem dX5_rateFor_24 : decode cX5_rateFor 24 = .ok (.invokevirtual 87, 3) := by decide +kernel
theorem dX5_rateFor_27 : decode cX5_rateFor 27 = .ok (.ifCond .ne 5, 3) := by decide +kernel
theorem dX5_rateFor_30 : decode cX5_rateFor 30 = .ok (.iconst 0, 1) := by decide +kernel
theorem dX5_rateFor_31 : decode cX5_rateFor 31 = .ok (.ireturn, 1) := by decide +kernel
theorem dX5_rateFor_32 : decode cX5_rateFor 32 = .ok (.aload_n 0, 1) := by decide +kernel
theorem dX5_rateFor_33 : decode cX5_rateFor 33 = .ok (.iload_n 1, 1) := by decide +kernel
theorem dX5_rateFor_34 : decode cX5_rateFor 34 = .ok (.iload_n 2, 1) := by decide +kernel
theorem dX5_rateFor_35 : decode cX5_rateFor 35 = .ok (.invokevirtual 124, 3) := by decide +kernel
theorem dX5_rateFor_38 : decode cX5_rateFor 38 = .ok (.istore_n 3, 1) := by decide +kernel
theorem dX5_rateFor_39 : decode cX5_rateFor 39 = .ok (.iload_n 3, 1) := by decide +kernel
theorem dX5_rateFor_40 : decode cX5_rateFor 40 = .ok (.iconst (-1), 1) := by decide +kernel
theorem dX5_rateFor_41 : decode cX5_rateFor 41 = .ok (.if_icmp .ne 11, 3) := by decide +kernel
theorem dX5_rateFor_44 : decode cX5_rateFor 44 = .ok (.aload_n 0, 1) := by decide +kernel
theorem dX5_rateFor_45 : decode cX5_rateFor 45 = .ok (.iconst 2, 1) := by decide +kernel
theorem dX5_rateFor_46 : decode cX5_rateFor 46 = .ok (.invokevirtual 107, 3) := by decide +kernel
theorem dX5_rateFor_49 : decode cX5_rateFor 49 = .ok (.goto 4, 3) := by decide +kernel
theorem dX5_rateFor_52 : decode cX5_rateFor 52 = .ok (.iload_n 3, 1) := by decide +kernel
theorem dX5_rateFor_53 : decode cX5_rateFor 53 = .ok (.ireturn, 1) := by decide +kernel
set_option maxRecDepth 20000 in
theorem ggX5_chargeOf_X5_rate : GoodIn wsX5_chargeOf wsX5_rate := goodIn_r _ [12, 13, 14, 15, 16, 17, 11, 18, 19, 20, 21, 22, 23, 24, 25, 26, 27, 28, 29, 30, 31, 32, 33, 34, 35, 36, 37, 38, 39, 40, 41, 42, 43, 44] (by decide +kernel) (by decide +kernel)
set_option maxRecDepth 20000 in
theorem gX5_chargeOf_X5_rate : GoodIn wsX5_chargeOf (wsV RX5 124 RX5 yX5_rate wsX5_rate) := goodIn_app (goodIn_of _ (by decide +kernel)) ggX5_chargeOf_X5_rate
theorem dX5_chargeOf_0 : decode cX5_chargeOf 0 = .ok (.aload_n 0, 1) := by decide +kernel
theorem dX5_chargeOf_1 : decode cX5_chargeOf 1 = .ok (.aload_n 0, 1) := by decide +kernel
theorem dX5_chargeOf_2 : decode cX5_chargeOf 2 = .ok (.getfield 30, 3) := by decide +kernel
theorem dX5_chargeOf_5 : decode cX5_chargeOf 5 = .ok (.iload_n 1, 1) := by decide +kernel
theorem dX5_chargeOf_6 : decode cX5_chargeOf 6 = .ok (.iaload, 1) := by decide +kernel
theorem dX5_chargeOf_7 : decode cX5_chargeOf 7 = .ok (.aload_n 0, 1) := by decide +kernel
theorem dX5_chargeOf_8 : decode cX5_chargeOf 8 = .ok (.getfield 33, 3) := by decide +kernel
theorem dX5_chargeOf_11 : decode cX5_chargeOf 11 = .ok (.iload_n 1, 1) := by decide +kernel
theorem dX5_chargeOf_12 : decode cX5_chargeOf 12 = .ok (.iaload, 1) := by decide +kernel
theorem dX5_chargeOf_13 : decode cX5_chargeOf 13 = .ok (.sipush 1000, 3) := by decide +kernel
theorem dX5_chargeOf_16 : decode cX5_chargeOf 16 = .ok (.idiv, 1) := by decide +kernel
theorem dX5_chargeOf_17 : decode cX5_chargeOf 17 = .ok (.invokevirtual 124, 3) := by decide +kernel
theorem dX5_chargeOf_20 : decode cX5_chargeOf 20 = .ok (.istore_n 2, 1) := by decide +kernel
theorem dX5_chargeOf_21 : decode cX5_chargeOf 21 = .ok (.iload_n 2, 1) := by decide +kernel
theorem dX5_chargeOf_22 : decode cX5_chargeOf 22 = .ok (.iconst (-1), 1) := by decide +kernel
theorem dX5_chargeOf_23 : decode cX5_chargeOf 23 = .ok (.if_icmp .ne 5, 3) := by decide +kernel
theorem dX5_chargeOf_26 : decode cX5_chargeOf 26 = .ok (.iconst (-1), 1) := by decide +kernel
theorem dX5_chargeOf_27 : decode cX5_chargeOf 27 = .ok (.ireturn, 1) := by decide +kernel
theorem dX5_chargeOf_28 : decode cX5_chargeOf 28 = .ok (.aload_n 0, 1) := by decide +kernel
theorem dX5_chargeOf_29 : decode cX5_chargeOf 29 = .ok (.getfield 39, 3) := by decide +kernel
theorem dX5_chargeOf_32 : decode cX5_chargeOf 32 = .ok (.iload_n 1, 1) := by decide +kernel
theorem dX5_chargeOf_33 : decode cX5_chargeOf 33 = .ok (.iaload, 1) := by decide +kernel
theorem dX5_chargeOf_34 : decode cX5_chargeOf 34 = .ok (.aload_n 0, 1) := by decide +kernel
theorem dX5_chargeOf_35 : decode cX5_chargeOf 35 = .ok (.getfield 60, 3) := by decide +kernel
theorem dX5_chargeOf_38 : decode cX5_chargeOf 38 = .ok (.iload_n 2, 1) := by decide +kernel
theorem dX5_chargeOf_39 : decode cX5_chargeOf 39 = .ok (.iaload, 1) := by decide +kernel
theorem dX5_chargeOf_40 : decode cX5_chargeOf 40 = .ok (.iadd, 1) := by decide +kernel
theorem dX5_chargeOf_41 : decode cX5_chargeOf 41 = .ok (.iconst 1, 1) := by decide +kernel
theorem dX5_chargeOf_42 : decode cX5_chargeOf 42 = .ok (.isub, 1) := by decide +kernel
theorem dX5_chargeOf_43 : decode cX5_chargeOf 43 = .ok (.aload_n 0, 1) := by decide +kernel
theorem dX5_chargeOf_44 : decode cX5_chargeOf 44 = .ok (.getfield 60, 3) := by decide +kernel
theorem dX5_chargeOf_47 : decode cX5_chargeOf 47 = .ok (.iload_n 2, 1) := by decide +kernel
theorem dX5_chargeOf_48 : decode cX5_chargeOf 48 = .ok (.iaload, 1) := by decide +kernel
theorem dX5_chargeOf_49 : decode cX5_chargeOf 49 = .ok (.idiv, 1) := by decide +kernel
theorem dX5_chargeOf_50 : decode cX5_chargeOf 50 = .ok (.aload_n 0, 1) := by decide +kernel
theorem dX5_chargeOf_51 : decode cX5_chargeOf 51 = .ok (.getfield 60, 3) := by decide +kernel
theorem dX5_chargeOf_54 : decode cX5_chargeOf 54 = .ok (.iload_n 2, 1) := by decide +kernel
theorem dX5_chargeOf_55 : decode cX5_chargeOf 55 = .ok (.iaload, 1) := by decide +kernel
theorem dX5_chargeOf_56 : decode cX5_chargeOf 56 = .ok (.imul, 1) := by decide +kernel
theorem dX5_chargeOf_57 : decode cX5_chargeOf 57 = .ok (.istore_n 3, 1) := by decide +kernel
theorem dX5_chargeOf_58 : decode cX5_chargeOf 58 = .ok (.iload_n 3, 1) := by decide +kernel
theorem dX5_chargeOf_59 : decode cX5_chargeOf 59 = .ok (.aload_n 0, 1) := by decide +kernel
theorem dX5_chargeOf_60 : decode cX5_chargeOf 60 = .ok (.getfield 63, 3) := by decide +kernel
theorem dX5_chargeOf_63 : decode cX5_chargeOf 63 = .ok (.iload_n 2, 1) := by decide +kernel
theorem dX5_chargeOf_64 : decode cX5_chargeOf 64 = .ok (.iaload, 1) := by decide +kernel
theorem dX5_chargeOf_65 : decode cX5_chargeOf 65 = .ok (.if_icmp .ge 12, 3) := by decide +kernel
theorem dX5_chargeOf_68 : decode cX5_chargeOf 68 = .ok (.aload_n 0, 1) := by decide +kernel
theorem dX5_chargeOf_69 : decode cX5_chargeOf 69 = .ok (.getfield 63, 3) := by decide +kernel
theorem dX5_chargeOf_72 : decode cX5_chargeOf 72 = .ok (.iload_n 2, 1) := by decide +kernel
theorem dX5_chargeOf_73 : decode cX5_chargeOf 73 = .ok (.iaload, 1) := by decide +kernel
theorem dX5_chargeOf_74 : decode cX5_chargeOf 74 = .ok (.goto 4, 3) := by decide +kernel
theorem dX5_chargeOf_77 : decode cX5_chargeOf 77 = .ok (.iload_n 3, 1) := by decide +kernel
theorem dX5_chargeOf_78 : decode cX5_chargeOf 78 = .ok (.istore 4, 2) := by decide +kernel
theorem dX5_chargeOf_80 : decode cX5_chargeOf 80 = .ok (.aload_n 0, 1) := by decide +kernel
theorem dX5_chargeOf_81 : decode cX5_chargeOf 81 = .ok (.getfield 66, 3) := by decide +kernel
theorem dX5_chargeOf_84 : decode cX5_chargeOf 84 = .ok (.iload_n 2, 1) := by decide +kernel
theorem dX5_chargeOf_85 : decode cX5_chargeOf 85 = .ok (.iaload, 1) := by decide +kernel
theorem dX5_chargeOf_86 : decode cX5_chargeOf 86 = .ok (.aload_n 0, 1) := by decide +kernel
theorem dX5_chargeOf_87 : decode cX5_chargeOf 87 = .ok (.getfield 57, 3) := by decide +kernel
theorem dX5_chargeOf_90 : decode cX5_chargeOf 90 = .ok (.iload_n 2, 1) := by decide +kernel
theorem dX5_chargeOf_91 : decode cX5_chargeOf 91 = .ok (.iaload, 1) := by decide +kernel
theorem dX5_chargeOf_92 : decode cX5_chargeOf 92 = .ok (.iload 4, 2) := by decide +kernel
theorem dX5_chargeOf_94 : decode cX5_chargeOf 94 = .ok (.imul, 1) := by decide +kernel
theorem dX5_chargeOf_95 : decode cX5_chargeOf 95 = .ok (.bipush 59, 2) := by decide +kernel
theorem dX5_chargeOf_97 : decode cX5_chargeOf 97 = .ok (.iadd, 1) := by decide +kernel
theorem dX5_chargeOf_98 : decode cX5_chargeOf 98 = .ok (.bipush 60, 2) := by decide +kernel
theorem dX5_chargeOf_100 : decode cX5_chargeOf 100 = .ok (.idiv, 1) := by decide +kernel
theorem dX5_chargeOf_101 : decode cX5_chargeOf 101 = .ok (.iadd, 1) := by decide +kernel
theorem dX5_chargeOf_102 : decode cX5_chargeOf 102 = .ok (.ireturn, 1) := by decide +kernel
set_option maxRecDepth 20000 in
theorem ggX5_charge_X5_isCall : GoodIn wsX5_charge wsX5_isCall := goodIn_r _ [5, 6, 37, 38, 39, 40, 41, 42, 43, 44, 45, 46, 47, 48, 49, 50, 51, 52, 53, 54, 55, 56, 57, 58, 59, 60, 61, 62] (by decide +kernel) (by decide +kernel)
set_option maxRecDepth 20000 in
theorem gX5_charge_X5_isCall : GoodIn wsX5_charge (wsV RX5 111 RX5 yX5_isCall wsX5_isCall) := goodIn_app (goodIn_of _ (by decide +kernel)) ggX5_charge_X5_isCall
set_option maxRecDepth 20000 in
theorem ggX5_charge_X5_asks : GoodIn wsX5_charge wsX5_asks := goodIn_r _ [10, 11, 37, 38, 39, 40, 41, 42, 43, 44, 45, 46, 47, 48, 49, 50, 51, 52, 53, 54, 55, 56, 57, 58, 59, 60, 61, 62] (by decide +kernel) (by decide +kernel)
set_option maxRecDepth 20000 in
theorem gX5_charge_X5_asks : GoodIn wsX5_charge (wsV RX5 87 RX5 yX5_asks wsX5_asks) := goodIn_app (goodIn_of _ (by decide +kernel)) ggX5_charge_X5_asks
set_option maxRecDepth 20000 in
theorem ggX5_charge_X5_chargeOf : GoodIn wsX5_charge wsX5_chargeOf := goodIn_r _ [15, 16, 17, 18, 19, 20, 21, 22, 23, 24, 25, 4, 26, 27, 28, 29, 30, 31, 32, 37, 38, 39, 40, 41, 42, 43, 44, 45, 46, 47, 48, 49, 50, 51, 52, 53, 54, 55, 56, 57, 58, 59, 60, 61, 62] (by decide +kernel) (by decide +kernel)
set_option maxRecDepth 20000 in
theorem gX5_charge_X5_chargeOf : GoodIn wsX5_charge (wsV RX5 127 RX5 yX5_chargeOf wsX5_chargeOf) := goodIn_app (goodIn_of _ (by decide +kernel)) ggX5_charge_X5_chargeOf
set_option maxRecDepth 20000 in
theorem ggX5_charge_X5_fails : GoodIn wsX5_charge wsX5_fails := goodIn_r _ [36, 11, 37, 38, 39, 40, 41, 42, 43, 44, 45, 46, 47, 48, 49, 50, 51, 52, 53, 54, 55, 56, 57, 58, 59, 60, 61, 62] (by decide +kernel) (by decide +kernel)
set_option maxRecDepth 20000 in
theorem gX5_charge_X5_fails : GoodIn wsX5_charge (wsV RX5 107 RX5 yX5_fails wsX5_fails) := goodIn_app (goodIn_of _ (by decide +kernel)) ggX5_charge_X5_fails
theorem dX5_charge_0 : decode cX5_charge 0 = .ok (.aload_n 0, 1) := by decide +kernel
theorem dX5_charge_1 : decode cX5_charge 1 = .ok (.aload_n 0, 1) := by decide +kernel
theorem dX5_charge_2 : decode cX5_charge 2 = .ok (.iload_n 1, 1) := by decide +kernel
theorem dX5_charge_3 : decode cX5_charge 3 = .ok (.invokevirtual 111, 3) := by decide +kernel
theorem dX5_charge_6 : decode cX5_charge 6 = .ok (.invokevirtual 87, 3) := by decide +kernel
theorem dX5_charge_9 : decode cX5_charge 9 = .ok (.ifCond .ne 5, 3) := by decide +kernel
theorem dX5_charge_12 : decode cX5_charge 12 = .ok (.iconst 0, 1) := by decide +kernel
theorem dX5_charge_13 : decode cX5_charge 13 = .ok (.ireturn, 1) := by decide +kernel
theorem dX5_charge_14 : decode cX5_charge 14 = .ok (.aload_n 0, 1) := by decide +kernel
theorem dX5_charge_15 : decode cX5_charge 15 = .ok (.iload_n 1, 1) := by decide +kernel
theorem dX5_charge_16 : decode cX5_charge 16 = .ok (.invokevirtual 127, 3) := by decide +kernel
theorem dX5_charge_19 : decode cX5_charge 19 = .ok (.istore_n 2, 1) := by decide +kernel
theorem dX5_charge_20 : decode cX5_charge 20 = .ok (.iload_n 2, 1) := by decide +kernel
theorem dX5_charge_21 : decode cX5_charge 21 = .ok (.iconst (-1), 1) := by decide +kernel
theorem dX5_charge_22 : decode cX5_charge 22 = .ok (.if_icmp .ne 11, 3) := by decide +kernel
theorem dX5_charge_25 : decode cX5_charge 25 = .ok (.aload_n 0, 1) := by decide +kernel
theorem dX5_charge_26 : decode cX5_charge 26 = .ok (.iconst 2, 1) := by decide +kernel
theorem dX5_charge_27 : decode cX5_charge 27 = .ok (.invokevirtual 107, 3) := by decide +kernel
theorem dX5_charge_30 : decode cX5_charge 30 = .ok (.goto 4, 3) := by decide +kernel
theorem dX5_charge_33 : decode cX5_charge 33 = .ok (.iload_n 2, 1) := by decide +kernel
theorem dX5_charge_34 : decode cX5_charge 34 = .ok (.ireturn, 1) := by decide +kernel
set_option maxRecDepth 20000 in
theorem ggX5_book_X5_chargeOf : GoodIn wsX5_book wsX5_chargeOf := goodIn_r _ [8, 9, 10, 11, 12, 13, 14, 15, 16, 17, 18, 7, 19, 20, 21, 22, 23, 24, 25, 26, 27, 28, 29, 30, 31, 32, 33, 34, 35, 36, 37, 38, 39, 40, 41, 42, 43, 44, 45, 46, 47, 48, 49, 50, 51] (by decide +kernel) (by decide +kernel)
set_option maxRecDepth 20000 in
theorem gX5_book_X5_chargeOf : GoodIn wsX5_book (wsV RX5 127 RX5 yX5_chargeOf wsX5_chargeOf) := goodIn_app (goodIn_of _ (by decide +kernel)) ggX5_book_X5_chargeOf
theorem dX5_book_0 : decode cX5_book 0 = .ok (.aload_n 0, 1) := by decide +kernel
theorem dX5_book_1 : decode cX5_book 1 = .ok (.iconst 0, 1) := by decide +kernel
theorem dX5_book_2 : decode cX5_book 2 = .ok (.putfield 78, 3) := by decide +kernel
theorem dX5_book_5 : decode cX5_book 5 = .ok (.iconst 0, 1) := by decide +kernel
theorem dX5_book_6 : decode cX5_book 6 = .ok (.istore_n 1, 1) := by decide +kernel
theorem dX5_book_7 : decode cX5_book 7 = .ok (.iconst 0, 1) := by decide +kernel
theorem dX5_book_8 : decode cX5_book 8 = .ok (.istore_n 2, 1) := by decide +kernel
theorem dX5_book_9 : decode cX5_book 9 = .ok (.iload_n 2, 1) := by decide +kernel
theorem dX5_book_10 : decode cX5_book 10 = .ok (.aload_n 0, 1) := by decide +kernel
theorem dX5_book_11 : decode cX5_book 11 = .ok (.getfield 91, 3) := by decide +kernel
theorem dX5_book_14 : decode cX5_book 14 = .ok (.if_icmp .ge 48, 3) := by decide +kernel
theorem dX5_book_17 : decode cX5_book 17 = .ok (.aload_n 0, 1) := by decide +kernel
theorem dX5_book_18 : decode cX5_book 18 = .ok (.getfield 45, 3) := by decide +kernel
theorem dX5_book_21 : decode cX5_book 21 = .ok (.iload_n 2, 1) := by decide +kernel
theorem dX5_book_22 : decode cX5_book 22 = .ok (.iaload, 1) := by decide +kernel
theorem dX5_book_23 : decode cX5_book 23 = .ok (.iconst (-1), 1) := by decide +kernel
theorem dX5_book_24 : decode cX5_book 24 = .ok (.if_icmp .ne 32, 3) := by decide +kernel
theorem dX5_book_27 : decode cX5_book 27 = .ok (.aload_n 0, 1) := by decide +kernel
theorem dX5_book_28 : decode cX5_book 28 = .ok (.getfield 45, 3) := by decide +kernel
theorem dX5_book_31 : decode cX5_book 31 = .ok (.iload_n 2, 1) := by decide +kernel
theorem dX5_book_32 : decode cX5_book 32 = .ok (.aload_n 0, 1) := by decide +kernel
theorem dX5_book_33 : decode cX5_book 33 = .ok (.iload_n 2, 1) := by decide +kernel
theorem dX5_book_34 : decode cX5_book 34 = .ok (.invokevirtual 127, 3) := by decide +kernel
theorem dX5_book_37 : decode cX5_book 37 = .ok (.iastore, 1) := by decide +kernel
theorem dX5_book_38 : decode cX5_book 38 = .ok (.iload_n 1, 1) := by decide +kernel
theorem dX5_book_39 : decode cX5_book 39 = .ok (.aload_n 0, 1) := by decide +kernel
theorem dX5_book_40 : decode cX5_book 40 = .ok (.getfield 45, 3) := by decide +kernel
theorem dX5_book_43 : decode cX5_book 43 = .ok (.iload_n 2, 1) := by decide +kernel
theorem dX5_book_44 : decode cX5_book 44 = .ok (.iaload, 1) := by decide +kernel
theorem dX5_book_45 : decode cX5_book 45 = .ok (.iconst (-1), 1) := by decide +kernel
theorem dX5_book_46 : decode cX5_book 46 = .ok (.if_icmp .ne 7, 3) := by decide +kernel
theorem dX5_book_49 : decode cX5_book 49 = .ok (.iconst 0, 1) := by decide +kernel
theorem dX5_book_50 : decode cX5_book 50 = .ok (.goto 4, 3) := by decide +kernel
theorem dX5_book_53 : decode cX5_book 53 = .ok (.iconst 1, 1) := by decide +kernel
theorem dX5_book_54 : decode cX5_book 54 = .ok (.iadd, 1) := by decide +kernel
theorem dX5_book_55 : decode cX5_book 55 = .ok (.istore_n 1, 1) := by decide +kernel
theorem dX5_book_56 : decode cX5_book 56 = .ok (.iinc 2 1, 3) := by decide +kernel
theorem dX5_book_59 : decode cX5_book 59 = .ok (.goto (-50), 3) := by decide +kernel
theorem dX5_book_62 : decode cX5_book 62 = .ok (.iload_n 1, 1) := by decide +kernel
theorem dX5_book_63 : decode cX5_book 63 = .ok (.ireturn, 1) := by decide +kernel
set_option maxRecDepth 20000 in
theorem ggX5_booked_X5_isCall : GoodIn wsX5_booked wsX5_isCall := goodIn_r _ [6, 7, 17, 18, 19, 20, 21, 22, 23, 24, 25, 26, 27, 28, 29, 30, 31, 32, 33, 34, 35, 36, 37, 38, 39, 40, 41, 42] (by decide +kernel) (by decide +kernel)
set_option maxRecDepth 20000 in
theorem gX5_booked_X5_isCall : GoodIn wsX5_booked (wsV RX5 111 RX5 yX5_isCall wsX5_isCall) := goodIn_app (goodIn_of _ (by decide +kernel)) ggX5_booked_X5_isCall
set_option maxRecDepth 20000 in
theorem ggX5_booked_X5_asks : GoodIn wsX5_booked wsX5_asks := goodIn_r _ [11, 12, 17, 18, 19, 20, 21, 22, 23, 24, 25, 26, 27, 28, 29, 30, 31, 32, 33, 34, 35, 36, 37, 38, 39, 40, 41, 42] (by decide +kernel) (by decide +kernel)
set_option maxRecDepth 20000 in
theorem gX5_booked_X5_asks : GoodIn wsX5_booked (wsV RX5 87 RX5 yX5_asks wsX5_asks) := goodIn_app (goodIn_of _ (by decide +kernel)) ggX5_booked_X5_asks
set_option maxRecDepth 20000 in
theorem ggX5_booked_X5_fails : GoodIn wsX5_booked wsX5_fails := goodIn_r _ [16, 12, 17, 18, 19, 20, 21, 22, 23, 24, 25, 26, 27, 28, 29, 30, 31, 32, 33, 34, 35, 36, 37, 38, 39, 40, 41, 42] (by decide +kernel) (by decide +kernel)
set_option maxRecDepth 20000 in
theorem gX5_booked_X5_fails : GoodIn wsX5_booked (wsV RX5 107 RX5 yX5_fails wsX5_fails) := goodIn_app (goodIn_of _ (by decide +kernel)) ggX5_booked_X5_fails
theorem dX5_booked_0 : decode cX5_booked 0 = .ok (.aload_n 0, 1) := by decide +kernel
theorem dX5_booked_1 : decode cX5_booked 1 = .ok (.aload_n 0, 1) := by decide +kernel
theorem dX5_booked_2 : decode cX5_booked 2 = .ok (.iload_n 1, 1) := by decide +kernel
theorem dX5_booked_3 : decode cX5_booked 3 = .ok (.invokevirtual 111, 3) := by decide +kernel
theorem dX5_booked_6 : decode cX5_booked 6 = .ok (.invokevirtual 87, 3) := by decide +kernel
theorem dX5_booked_9 : decode cX5_booked 9 = .ok (.ifCond .ne 5, 3) := by decide +kernel
theorem dX5_booked_12 : decode cX5_booked 12 = .ok (.iconst 0, 1) := by decide +kernel
theorem dX5_booked_13 : decode cX5_booked 13 = .ok (.ireturn, 1) := by decide +kernel
theorem dX5_booked_14 : decode cX5_booked 14 = .ok (.aload_n 0, 1) := by decide +kernel
theorem dX5_booked_15 : decode cX5_booked 15 = .ok (.getfield 45, 3) := by decide +kernel
theorem dX5_booked_18 : decode cX5_booked 18 = .ok (.iload_n 1, 1) := by decide +kernel
theorem dX5_booked_19 : decode cX5_booked 19 = .ok (.iaload, 1) := by decide +kernel
theorem dX5_booked_20 : decode cX5_booked 20 = .ok (.iconst (-1), 1) := by decide +kernel
theorem dX5_booked_21 : decode cX5_booked 21 = .ok (.if_icmp .ne 11, 3) := by decide +kernel
theorem dX5_booked_24 : decode cX5_booked 24 = .ok (.aload_n 0, 1) := by decide +kernel
theorem dX5_booked_25 : decode cX5_booked 25 = .ok (.iconst 2, 1) := by decide +kernel
theorem dX5_booked_26 : decode cX5_booked 26 = .ok (.invokevirtual 107, 3) := by decide +kernel
theorem dX5_booked_29 : decode cX5_booked 29 = .ok (.goto 9, 3) := by decide +kernel
theorem dX5_booked_32 : decode cX5_booked 32 = .ok (.aload_n 0, 1) := by decide +kernel
theorem dX5_booked_33 : decode cX5_booked 33 = .ok (.getfield 45, 3) := by decide +kernel
theorem dX5_booked_36 : decode cX5_booked 36 = .ok (.iload_n 1, 1) := by decide +kernel
theorem dX5_booked_37 : decode cX5_booked 37 = .ok (.iaload, 1) := by decide +kernel
theorem dX5_booked_38 : decode cX5_booked 38 = .ok (.ireturn, 1) := by decide +kernel
set_option maxRecDepth 20000 in
theorem ggX5_correct_X5_chargeOf : GoodIn wsX5_correct wsX5_chargeOf := goodIn_r _ [9, 10, 11, 12, 13, 14, 15, 16, 17, 18, 19, 8, 20, 21, 22, 23, 24, 25, 26, 27, 28, 29, 30, 31, 32, 33, 34, 35, 36, 37, 38, 39, 40, 41, 42, 43, 44, 45, 46, 47, 48, 49, 50, 51, 52] (by decide +kernel) (by decide +kernel)
set_option maxRecDepth 20000 in
theorem gX5_correct_X5_chargeOf : GoodIn wsX5_correct (wsV RX5 127 RX5 yX5_chargeOf wsX5_chargeOf) := goodIn_app (goodIn_of _ (by decide +kernel)) ggX5_correct_X5_chargeOf
theorem dX5_correct_0 : decode cX5_correct 0 = .ok (.aload_n 0, 1) := by decide +kernel
theorem dX5_correct_1 : decode cX5_correct 1 = .ok (.iconst 0, 1) := by decide +kernel
theorem dX5_correct_2 : decode cX5_correct 2 = .ok (.putfield 78, 3) := by decide +kernel
theorem dX5_correct_5 : decode cX5_correct 5 = .ok (.iconst 0, 1) := by decide +kernel
theorem dX5_correct_6 : decode cX5_correct 6 = .ok (.istore_n 1, 1) := by decide +kernel
theorem dX5_correct_7 : decode cX5_correct 7 = .ok (.iconst 0, 1) := by decide +kernel
theorem dX5_correct_8 : decode cX5_correct 8 = .ok (.istore_n 2, 1) := by decide +kernel
theorem dX5_correct_9 : decode cX5_correct 9 = .ok (.iload_n 2, 1) := by decide +kernel
theorem dX5_correct_10 : decode cX5_correct 10 = .ok (.aload_n 0, 1) := by decide +kernel
theorem dX5_correct_11 : decode cX5_correct 11 = .ok (.getfield 91, 3) := by decide +kernel
theorem dX5_correct_14 : decode cX5_correct 14 = .ok (.if_icmp .ge 76, 3) := by decide +kernel
theorem dX5_correct_17 : decode cX5_correct 17 = .ok (.aload_n 0, 1) := by decide +kernel
theorem dX5_correct_18 : decode cX5_correct 18 = .ok (.getfield 45, 3) := by decide +kernel
theorem dX5_correct_21 : decode cX5_correct 21 = .ok (.iload_n 2, 1) := by decide +kernel
theorem dX5_correct_22 : decode cX5_correct 22 = .ok (.iaload, 1) := by decide +kernel
theorem dX5_correct_23 : decode cX5_correct 23 = .ok (.iconst (-1), 1) := by decide +kernel
theorem dX5_correct_24 : decode cX5_correct 24 = .ok (.if_icmp .ne 7, 3) := by decide +kernel
theorem dX5_correct_27 : decode cX5_correct 27 = .ok (.iconst (-1), 1) := by decide +kernel
theorem dX5_correct_28 : decode cX5_correct 28 = .ok (.goto 8, 3) := by decide +kernel
theorem dX5_correct_31 : decode cX5_correct 31 = .ok (.aload_n 0, 1) := by decide +kernel
theorem dX5_correct_32 : decode cX5_correct 32 = .ok (.iload_n 2, 1) := by decide +kernel
theorem dX5_correct_33 : decode cX5_correct 33 = .ok (.invokevirtual 127, 3) := by decide +kernel
theorem dX5_correct_36 : decode cX5_correct 36 = .ok (.istore_n 3, 1) := by decide +kernel
theorem dX5_correct_37 : decode cX5_correct 37 = .ok (.iload_n 3, 1) := by decide +kernel
theorem dX5_correct_38 : decode cX5_correct 38 = .ok (.iconst (-1), 1) := by decide +kernel
theorem dX5_correct_39 : decode cX5_correct 39 = .ok (.if_icmp .eq 45, 3) := by decide +kernel
theorem dX5_correct_42 : decode cX5_correct 42 = .ok (.iload_n 1, 1) := by decide +kernel
theorem dX5_correct_43 : decode cX5_correct 43 = .ok (.iload_n 3, 1) := by decide +kernel
theorem dX5_correct_44 : decode cX5_correct 44 = .ok (.aload_n 0, 1) := by decide +kernel
theorem dX5_correct_45 : decode cX5_correct 45 = .ok (.getfield 45, 3) := by decide +kernel
theorem dX5_correct_48 : decode cX5_correct 48 = .ok (.iload_n 2, 1) := by decide +kernel
theorem dX5_correct_49 : decode cX5_correct 49 = .ok (.iaload, 1) := by decide +kernel
theorem dX5_correct_50 : decode cX5_correct 50 = .ok (.isub, 1) := by decide +kernel
theorem dX5_correct_51 : decode cX5_correct 51 = .ok (.iadd, 1) := by decide +kernel
theorem dX5_correct_52 : decode cX5_correct 52 = .ok (.istore_n 1, 1) := by decide +kernel
theorem dX5_correct_53 : decode cX5_correct 53 = .ok (.aload_n 0, 1) := by decide +kernel
theorem dX5_correct_54 : decode cX5_correct 54 = .ok (.dup, 1) := by decide +kernel
theorem dX5_correct_55 : decode cX5_correct 55 = .ok (.getfield 130, 3) := by decide +kernel
theorem dX5_correct_58 : decode cX5_correct 58 = .ok (.iload_n 3, 1) := by decide +kernel
theorem dX5_correct_59 : decode cX5_correct 59 = .ok (.aload_n 0, 1) := by decide +kernel
theorem dX5_correct_60 : decode cX5_correct 60 = .ok (.getfield 45, 3) := by decide +kernel
theorem dX5_correct_63 : decode cX5_correct 63 = .ok (.iload_n 2, 1) := by decide +kernel
theorem dX5_correct_64 : decode cX5_correct 64 = .ok (.iaload, 1) := by decide +kernel
theorem dX5_correct_65 : decode cX5_correct 65 = .ok (.if_icmp .ne 7, 3) := by decide +kernel
theorem dX5_correct_68 : decode cX5_correct 68 = .ok (.iconst 0, 1) := by decide +kernel
theorem dX5_correct_69 : decode cX5_correct 69 = .ok (.goto 4, 3) := by decide +kernel
theorem dX5_correct_72 : decode cX5_correct 72 = .ok (.iconst 1, 1) := by decide +kernel
theorem dX5_correct_73 : decode cX5_correct 73 = .ok (.iadd, 1) := by decide +kernel
theorem dX5_correct_74 : decode cX5_correct 74 = .ok (.putfield 130, 3) := by decide +kernel
theorem dX5_correct_77 : decode cX5_correct 77 = .ok (.aload_n 0, 1) := by decide +kernel
theorem dX5_correct_78 : decode cX5_correct 78 = .ok (.getfield 45, 3) := by decide +kernel
theorem dX5_correct_81 : decode cX5_correct 81 = .ok (.iload_n 2, 1) := by decide +kernel
theorem dX5_correct_82 : decode cX5_correct 82 = .ok (.iload_n 3, 1) := by decide +kernel
theorem dX5_correct_83 : decode cX5_correct 83 = .ok (.iastore, 1) := by decide +kernel
theorem dX5_correct_84 : decode cX5_correct 84 = .ok (.iinc 2 1, 3) := by decide +kernel
theorem dX5_correct_87 : decode cX5_correct 87 = .ok (.goto (-78), 3) := by decide +kernel
theorem dX5_correct_90 : decode cX5_correct 90 = .ok (.iload_n 1, 1) := by decide +kernel
theorem dX5_correct_91 : decode cX5_correct 91 = .ok (.ireturn, 1) := by decide +kernel
theorem dX5_corrections_0 : decode cX5_corrections 0 = .ok (.aload_n 0, 1) := by decide +kernel
theorem dX5_corrections_1 : decode cX5_corrections 1 = .ok (.iconst 0, 1) := by decide +kernel
theorem dX5_corrections_2 : decode cX5_corrections 2 = .ok (.putfield 78, 3) := by decide +kernel
theorem dX5_corrections_5 : decode cX5_corrections 5 = .ok (.aload_n 0, 1) := by decide +kernel
theorem dX5_corrections_6 : decode cX5_corrections 6 = .ok (.getfield 130, 3) := by decide +kernel
theorem dX5_corrections_9 : decode cX5_corrections 9 = .ok (.ireturn, 1) := by decide +kernel
theorem dX5_bookedOf_0 : decode cX5_bookedOf 0 = .ok (.aload_n 0, 1) := by decide +kernel
theorem dX5_bookedOf_1 : decode cX5_bookedOf 1 = .ok (.getfield 45, 3) := by decide +kernel
theorem dX5_bookedOf_4 : decode cX5_bookedOf 4 = .ok (.iload_n 1, 1) := by decide +kernel
theorem dX5_bookedOf_5 : decode cX5_bookedOf 5 = .ok (.iaload, 1) := by decide +kernel
theorem dX5_bookedOf_6 : decode cX5_bookedOf 6 = .ok (.iconst (-1), 1) := by decide +kernel
theorem dX5_bookedOf_7 : decode cX5_bookedOf 7 = .ok (.if_icmp .ne 7, 3) := by decide +kernel
theorem dX5_bookedOf_10 : decode cX5_bookedOf 10 = .ok (.iconst 0, 1) := by decide +kernel
theorem dX5_bookedOf_11 : decode cX5_bookedOf 11 = .ok (.goto 9, 3) := by decide +kernel
theorem dX5_bookedOf_14 : decode cX5_bookedOf 14 = .ok (.aload_n 0, 1) := by decide +kernel
theorem dX5_bookedOf_15 : decode cX5_bookedOf 15 = .ok (.getfield 45, 3) := by decide +kernel
theorem dX5_bookedOf_18 : decode cX5_bookedOf 18 = .ok (.iload_n 1, 1) := by decide +kernel
theorem dX5_bookedOf_19 : decode cX5_bookedOf 19 = .ok (.iaload, 1) := by decide +kernel
theorem dX5_bookedOf_20 : decode cX5_bookedOf 20 = .ok (.ireturn, 1) := by decide +kernel
set_option maxRecDepth 20000 in
theorem ggX5_total_X5_isPrefix : GoodIn wsX5_total wsX5_isPrefix := goodIn_r _ [6, 7, 8, 9, 5, 10] (by decide +kernel) (by decide +kernel)
set_option maxRecDepth 20000 in
theorem gX5_total_X5_isPrefix : GoodIn wsX5_total (va_wsS RX5 114 yX5_isPrefix wsX5_isPrefix) := goodIn_app (goodIn_of _ (by decide +kernel)) ggX5_total_X5_isPrefix
set_option maxRecDepth 20000 in
theorem ggX5_total_X5_asks : GoodIn wsX5_total wsX5_asks := goodIn_r _ [14, 15, 24, 25, 26, 27, 28, 29, 30, 31, 32, 33, 34, 35, 36, 37, 38, 39, 40, 41, 42, 43, 44, 45, 46, 47, 48, 49] (by decide +kernel) (by decide +kernel)
set_option maxRecDepth 20000 in
theorem gX5_total_X5_asks : GoodIn wsX5_total (wsV RX5 87 RX5 yX5_asks wsX5_asks) := goodIn_app (goodIn_of _ (by decide +kernel)) ggX5_total_X5_asks
set_option maxRecDepth 20000 in
theorem ggX5_total_X5_fits : GoodIn wsX5_total wsX5_fits := goodIn_r _ [18] (by decide +kernel) (by decide +kernel)
set_option maxRecDepth 20000 in
theorem gX5_total_X5_fits : GoodIn wsX5_total (va_wsS RX5 120 yX5_fits wsX5_fits) := goodIn_app (goodIn_of _ (by decide +kernel)) ggX5_total_X5_fits
set_option maxRecDepth 20000 in
theorem ggX5_total_X5_bookedOf : GoodIn wsX5_total wsX5_bookedOf := goodIn_r _ [22, 23, 24, 25, 26, 27, 28, 29, 30, 31, 32, 33, 34, 35, 36, 37, 38, 39, 40, 41, 42, 43, 44, 45, 46, 47, 48, 49] (by decide +kernel) (by decide +kernel)
set_option maxRecDepth 20000 in
theorem gX5_total_X5_bookedOf : GoodIn wsX5_total (wsV RX5 133 RX5 yX5_bookedOf wsX5_bookedOf) := goodIn_app (goodIn_of _ (by decide +kernel)) ggX5_total_X5_bookedOf
theorem dX5_total_0 : decode cX5_total 0 = .ok (.iconst 0, 1) := by decide +kernel
theorem dX5_total_1 : decode cX5_total 1 = .ok (.istore_n 2, 1) := by decide +kernel
theorem dX5_total_2 : decode cX5_total 2 = .ok (.aload_n 0, 1) := by decide +kernel
theorem dX5_total_3 : decode cX5_total 3 = .ok (.iload_n 1, 1) := by decide +kernel
theorem dX5_total_4 : decode cX5_total 4 = .ok (.invokestatic 114, 3) := by decide +kernel
theorem dX5_total_7 : decode cX5_total 7 = .ok (.invokevirtual 87, 3) := by decide +kernel
theorem dX5_total_10 : decode cX5_total 10 = .ok (.ifCond .eq 44, 3) := by decide +kernel
theorem dX5_total_13 : decode cX5_total 13 = .ok (.iconst 0, 1) := by decide +kernel
theorem dX5_total_14 : decode cX5_total 14 = .ok (.istore_n 3, 1) := by decide +kernel
theorem dX5_total_15 : decode cX5_total 15 = .ok (.iload_n 3, 1) := by decide +kernel
theorem dX5_total_16 : decode cX5_total 16 = .ok (.aload_n 0, 1) := by decide +kernel
theorem dX5_total_17 : decode cX5_total 17 = .ok (.getfield 91, 3) := by decide +kernel
theorem dX5_total_20 : decode cX5_total 20 = .ok (.if_icmp .ge 34, 3) := by decide +kernel
theorem dX5_total_23 : decode cX5_total 23 = .ok (.iload_n 2, 1) := by decide +kernel
theorem dX5_total_24 : decode cX5_total 24 = .ok (.iload_n 1, 1) := by decide +kernel
theorem dX5_total_25 : decode cX5_total 25 = .ok (.aload_n 0, 1) := by decide +kernel
theorem dX5_total_26 : decode cX5_total 26 = .ok (.getfield 30, 3) := by decide +kernel
theorem dX5_total_29 : decode cX5_total 29 = .ok (.iload_n 3, 1) := by decide +kernel
theorem dX5_total_30 : decode cX5_total 30 = .ok (.iaload, 1) := by decide +kernel
theorem dX5_total_31 : decode cX5_total 31 = .ok (.invokestatic 120, 3) := by decide +kernel
theorem dX5_total_34 : decode cX5_total 34 = .ok (.ifCond .eq 11, 3) := by decide +kernel
theorem dX5_total_37 : decode cX5_total 37 = .ok (.aload_n 0, 1) := by decide +kernel
theorem dX5_total_38 : decode cX5_total 38 = .ok (.iload_n 3, 1) := by decide +kernel
theorem dX5_total_39 : decode cX5_total 39 = .ok (.invokevirtual 133, 3) := by decide +kernel
theorem dX5_total_42 : decode cX5_total 42 = .ok (.goto 4, 3) := by decide +kernel
theorem dX5_total_45 : decode cX5_total 45 = .ok (.iconst 0, 1) := by decide +kernel
theorem dX5_total_46 : decode cX5_total 46 = .ok (.iadd, 1) := by decide +kernel
theorem dX5_total_47 : decode cX5_total 47 = .ok (.istore_n 2, 1) := by decide +kernel
theorem dX5_total_48 : decode cX5_total 48 = .ok (.iinc 3 1, 3) := by decide +kernel
theorem dX5_total_51 : decode cX5_total 51 = .ok (.goto (-36), 3) := by decide +kernel
theorem dX5_total_54 : decode cX5_total 54 = .ok (.iload_n 2, 1) := by decide +kernel
theorem dX5_total_55 : decode cX5_total 55 = .ok (.ireturn, 1) := by decide +kernel
set_option maxRecDepth 20000 in
theorem ggX5_offer_X5_in : GoodIn wsX5_offer wsX5_in := goodIn_r _ [7] (by decide +kernel) (by decide +kernel)
set_option maxRecDepth 20000 in
theorem gX5_offer_X5_in : GoodIn wsX5_offer (va_wsS RX5 82 yX5_in wsX5_in) := goodIn_app (goodIn_of _ (by decide +kernel)) ggX5_offer_X5_in
set_option maxRecDepth 20000 in
theorem ggX5_offer_X5_isPrefix : GoodIn wsX5_offer wsX5_isPrefix := goodIn_r _ [10, 11, 4, 5, 6, 7] (by decide +kernel) (by decide +kernel)
set_option maxRecDepth 20000 in
theorem gX5_offer_X5_isPrefix : GoodIn wsX5_offer (va_wsS RX5 114 yX5_isPrefix wsX5_isPrefix) := goodIn_app (goodIn_of _ (by decide +kernel)) ggX5_offer_X5_isPrefix
set_option maxRecDepth 20000 in
theorem ggX5_offer_X5_asks : GoodIn wsX5_offer wsX5_asks := goodIn_r _ [15, 16, 21, 22, 23, 24, 25, 26, 27, 28, 29, 30, 31, 32, 33, 34, 35, 36, 37, 38, 39, 40, 41, 42, 43, 44, 45, 46] (by decide +kernel) (by decide +kernel)
set_option maxRecDepth 20000 in
theorem gX5_offer_X5_asks : GoodIn wsX5_offer (wsV RX5 87 RX5 yX5_asks wsX5_asks) := goodIn_app (goodIn_of _ (by decide +kernel)) ggX5_offer_X5_asks
set_option maxRecDepth 20000 in
theorem ggX5_offer_X5_fails : GoodIn wsX5_offer wsX5_fails := goodIn_r _ [20, 16, 21, 22, 23, 24, 25, 26, 27, 28, 29, 30, 31, 32, 33, 34, 35, 36, 37, 38, 39, 40, 41, 42, 43, 44, 45, 46] (by decide +kernel) (by decide +kernel)
set_option maxRecDepth 20000 in
theorem gX5_offer_X5_fails : GoodIn wsX5_offer (wsV RX5 107 RX5 yX5_fails wsX5_fails) := goodIn_app (goodIn_of _ (by decide +kernel)) ggX5_offer_X5_fails
theorem dX5_offer_0 : decode cX5_offer 0 = .ok (.aload_n 0, 1) := by decide +kernel
theorem dX5_offer_1 : decode cX5_offer 1 = .ok (.iload_n 1, 1) := by decide +kernel
theorem dX5_offer_2 : decode cX5_offer 2 = .ok (.iconst 0, 1) := by decide +kernel
theorem dX5_offer_3 : decode cX5_offer 3 = .ok (.iconst 3, 1) := by decide +kernel
theorem dX5_offer_4 : decode cX5_offer 4 = .ok (.invokestatic 82, 3) := by decide +kernel
theorem dX5_offer_7 : decode cX5_offer 7 = .ok (.ifCond .eq 25, 3) := by decide +kernel
theorem dX5_offer_10 : decode cX5_offer 10 = .ok (.iload_n 2, 1) := by decide +kernel
theorem dX5_offer_11 : decode cX5_offer 11 = .ok (.invokestatic 114, 3) := by decide +kernel
theorem dX5_offer_14 : decode cX5_offer 14 = .ok (.ifCond .eq 18, 3) := by decide +kernel
theorem dX5_offer_17 : decode cX5_offer 17 = .ok (.iload_n 3, 1) := by decide +kernel
theorem dX5_offer_18 : decode cX5_offer 18 = .ok (.iconst (-1), 1) := by decide +kernel
theorem dX5_offer_19 : decode cX5_offer 19 = .ok (.sipush 10000, 3) := by decide +kernel
theorem dX5_offer_22 : decode cX5_offer 22 = .ok (.invokestatic 82, 3) := by decide +kernel
theorem dX5_offer_25 : decode cX5_offer 25 = .ok (.ifCond .eq 7, 3) := by decide +kernel
theorem dX5_offer_28 : decode cX5_offer 28 = .ok (.iconst 1, 1) := by decide +kernel
theorem dX5_offer_29 : decode cX5_offer 29 = .ok (.goto 4, 3) := by decide +kernel
theorem dX5_offer_32 : decode cX5_offer 32 = .ok (.iconst 0, 1) := by decide +kernel
theorem dX5_offer_33 : decode cX5_offer 33 = .ok (.invokevirtual 87, 3) := by decide +kernel
theorem dX5_offer_36 : decode cX5_offer 36 = .ok (.ifCond .ne 5, 3) := by decide +kernel
theorem dX5_offer_39 : decode cX5_offer 39 = .ok (.iconst 0, 1) := by decide +kernel
theorem dX5_offer_40 : decode cX5_offer 40 = .ok (.ireturn, 1) := by decide +kernel
theorem dX5_offer_41 : decode cX5_offer 41 = .ok (.iconst (-1), 1) := by decide +kernel
theorem dX5_offer_42 : decode cX5_offer 42 = .ok (.istore 4, 2) := by decide +kernel
theorem dX5_offer_44 : decode cX5_offer 44 = .ok (.iconst 0, 1) := by decide +kernel
theorem dX5_offer_45 : decode cX5_offer 45 = .ok (.istore 5, 2) := by decide +kernel
theorem dX5_offer_47 : decode cX5_offer 47 = .ok (.iload 5, 2) := by decide +kernel
theorem dX5_offer_49 : decode cX5_offer 49 = .ok (.aload_n 0, 1) := by decide +kernel
theorem dX5_offer_50 : decode cX5_offer 50 = .ok (.getfield 69, 3) := by decide +kernel
theorem dX5_offer_53 : decode cX5_offer 53 = .ok (.iload_n 1, 1) := by decide +kernel
theorem dX5_offer_54 : decode cX5_offer 54 = .ok (.iaload, 1) := by decide +kernel
theorem dX5_offer_55 : decode cX5_offer 55 = .ok (.if_icmp .ge 39, 3) := by decide +kernel
theorem dX5_offer_58 : decode cX5_offer 58 = .ok (.aload_n 0, 1) := by decide +kernel
theorem dX5_offer_59 : decode cX5_offer 59 = .ok (.getfield 72, 3) := by decide +kernel
theorem dX5_offer_62 : decode cX5_offer 62 = .ok (.bipush 10, 2) := by decide +kernel
theorem dX5_offer_64 : decode cX5_offer 64 = .ok (.iload_n 1, 1) := by decide +kernel
theorem dX5_offer_65 : decode cX5_offer 65 = .ok (.imul, 1) := by decide +kernel
theorem dX5_offer_66 : decode cX5_offer 66 = .ok (.iload 5, 2) := by decide +kernel
theorem dX5_offer_68 : decode cX5_offer 68 = .ok (.iadd, 1) := by decide +kernel
theorem dX5_offer_69 : decode cX5_offer 69 = .ok (.iaload, 1) := by decide +kernel
theorem dX5_offer_70 : decode cX5_offer 70 = .ok (.iload_n 2, 1) := by decide +kernel
theorem dX5_offer_71 : decode cX5_offer 71 = .ok (.if_icmp .ne 13, 3) := by decide +kernel
theorem dX5_offer_74 : decode cX5_offer 74 = .ok (.bipush 10, 2) := by decide +kernel
theorem dX5_offer_76 : decode cX5_offer 76 = .ok (.iload_n 1, 1) := by decide +kernel
theorem dX5_offer_77 : decode cX5_offer 77 = .ok (.imul, 1) := by decide +kernel
theorem dX5_offer_78 : decode cX5_offer 78 = .ok (.iload 5, 2) := by decide +kernel
theorem dX5_offer_80 : decode cX5_offer 80 = .ok (.iadd, 1) := by decide +kernel
theorem dX5_offer_81 : decode cX5_offer 81 = .ok (.goto 5, 3) := by decide +kernel
theorem dX5_offer_84 : decode cX5_offer 84 = .ok (.iload 4, 2) := by decide +kernel
theorem dX5_offer_86 : decode cX5_offer 86 = .ok (.istore 4, 2) := by decide +kernel
theorem dX5_offer_88 : decode cX5_offer 88 = .ok (.iinc 5 1, 3) := by decide +kernel
theorem dX5_offer_91 : decode cX5_offer 91 = .ok (.goto (-44), 3) := by decide +kernel
theorem dX5_offer_94 : decode cX5_offer 94 = .ok (.bipush 10, 2) := by decide +kernel
theorem dX5_offer_96 : decode cX5_offer 96 = .ok (.iload_n 1, 1) := by decide +kernel
theorem dX5_offer_97 : decode cX5_offer 97 = .ok (.imul, 1) := by decide +kernel
theorem dX5_offer_98 : decode cX5_offer 98 = .ok (.aload_n 0, 1) := by decide +kernel
theorem dX5_offer_99 : decode cX5_offer 99 = .ok (.getfield 69, 3) := by decide +kernel
theorem dX5_offer_102 : decode cX5_offer 102 = .ok (.iload_n 1, 1) := by decide +kernel
theorem dX5_offer_103 : decode cX5_offer 103 = .ok (.iaload, 1) := by decide +kernel
theorem dX5_offer_104 : decode cX5_offer 104 = .ok (.iadd, 1) := by decide +kernel
theorem dX5_offer_105 : decode cX5_offer 105 = .ok (.iconst 1, 1) := by decide +kernel
theorem dX5_offer_106 : decode cX5_offer 106 = .ok (.isub, 1) := by decide +kernel
theorem dX5_offer_107 : decode cX5_offer 107 = .ok (.istore 5, 2) := by decide +kernel
theorem dX5_offer_109 : decode cX5_offer 109 = .ok (.iload 4, 2) := by decide +kernel
theorem dX5_offer_111 : decode cX5_offer 111 = .ok (.iconst (-1), 1) := by decide +kernel
theorem dX5_offer_112 : decode cX5_offer 112 = .ok (.if_icmp .ne 10, 3) := by decide +kernel
theorem dX5_offer_115 : decode cX5_offer 115 = .ok (.iload_n 3, 1) := by decide +kernel
theorem dX5_offer_116 : decode cX5_offer 116 = .ok (.iconst (-1), 1) := by decide +kernel
theorem dX5_offer_117 : decode cX5_offer 117 = .ok (.if_icmp .ne 5, 3) := by decide +kernel
theorem dX5_offer_120 : decode cX5_offer 120 = .ok (.iconst (-1), 1) := by decide +kernel
theorem dX5_offer_121 : decode cX5_offer 121 = .ok (.ireturn, 1) := by decide +kernel
theorem dX5_offer_122 : decode cX5_offer 122 = .ok (.iload 4, 2) := by decide +kernel
theorem dX5_offer_124 : decode cX5_offer 124 = .ok (.iconst (-1), 1) := by decide +kernel
theorem dX5_offer_125 : decode cX5_offer 125 = .ok (.if_icmp .ne 20, 3) := by decide +kernel
theorem dX5_offer_128 : decode cX5_offer 128 = .ok (.aload_n 0, 1) := by decide +kernel
theorem dX5_offer_129 : decode cX5_offer 129 = .ok (.getfield 69, 3) := by decide +kernel
theorem dX5_offer_132 : decode cX5_offer 132 = .ok (.iload_n 1, 1) := by decide +kernel
theorem dX5_offer_133 : decode cX5_offer 133 = .ok (.iaload, 1) := by decide +kernel
theorem dX5_offer_134 : decode cX5_offer 134 = .ok (.bipush 10, 2) := by decide +kernel
theorem dX5_offer_136 : decode cX5_offer 136 = .ok (.if_icmp .ne 9, 3) := by decide +kernel
theorem dX5_offer_139 : decode cX5_offer 139 = .ok (.aload_n 0, 1) := by decide +kernel
theorem dX5_offer_140 : decode cX5_offer 140 = .ok (.iconst 2, 1) := by decide +kernel
theorem dX5_offer_141 : decode cX5_offer 141 = .ok (.invokevirtual 107, 3) := by decide +kernel
theorem dX5_offer_144 : decode cX5_offer 144 = .ok (.ireturn, 1) := by decide +kernel
theorem dX5_offer_145 : decode cX5_offer 145 = .ok (.iload 4, 2) := by decide +kernel
theorem dX5_offer_147 : decode cX5_offer 147 = .ok (.iconst (-1), 1) := by decide +kernel
theorem dX5_offer_148 : decode cX5_offer 148 = .ok (.if_icmp .ne 7, 3) := by decide +kernel
theorem dX5_offer_151 : decode cX5_offer 151 = .ok (.iconst (-1), 1) := by decide +kernel
theorem dX5_offer_152 : decode cX5_offer 152 = .ok (.goto 10, 3) := by decide +kernel
theorem dX5_offer_155 : decode cX5_offer 155 = .ok (.aload_n 0, 1) := by decide +kernel
theorem dX5_offer_156 : decode cX5_offer 156 = .ok (.getfield 75, 3) := by decide +kernel
theorem dX5_offer_159 : decode cX5_offer 159 = .ok (.iload 4, 2) := by decide +kernel
theorem dX5_offer_161 : decode cX5_offer 161 = .ok (.iaload, 1) := by decide +kernel
theorem dX5_offer_162 : decode cX5_offer 162 = .ok (.istore 6, 2) := by decide +kernel
theorem dX5_offer_164 : decode cX5_offer 164 = .ok (.iload_n 3, 1) := by decide +kernel
theorem dX5_offer_165 : decode cX5_offer 165 = .ok (.iconst (-1), 1) := by decide +kernel
theorem dX5_offer_166 : decode cX5_offer 166 = .ok (.if_icmp .ne 44, 3) := by decide +kernel
theorem dX5_offer_169 : decode cX5_offer 169 = .ok (.aload_n 0, 1) := by decide +kernel
theorem dX5_offer_170 : decode cX5_offer 170 = .ok (.getfield 72, 3) := by decide +kernel
theorem dX5_offer_173 : decode cX5_offer 173 = .ok (.iload 4, 2) := by decide +kernel
theorem dX5_offer_175 : decode cX5_offer 175 = .ok (.aload_n 0, 1) := by decide +kernel
theorem dX5_offer_176 : decode cX5_offer 176 = .ok (.getfield 72, 3) := by decide +kernel
theorem dX5_offer_179 : decode cX5_offer 179 = .ok (.iload 5, 2) := by decide +kernel
theorem dX5_offer_181 : decode cX5_offer 181 = .ok (.iaload, 1) := by decide +kernel
theorem dX5_offer_182 : decode cX5_offer 182 = .ok (.iastore, 1) := by decide +kernel
theorem dX5_offer_183 : decode cX5_offer 183 = .ok (.aload_n 0, 1) := by decide +kernel
theorem dX5_offer_184 : decode cX5_offer 184 = .ok (.getfield 75, 3) := by decide +kernel
theorem dX5_offer_187 : decode cX5_offer 187 = .ok (.iload 4, 2) := by decide +kernel
theorem dX5_offer_189 : decode cX5_offer 189 = .ok (.aload_n 0, 1) := by decide +kernel
theorem dX5_offer_190 : decode cX5_offer 190 = .ok (.getfield 75, 3) := by decide +kernel
theorem dX5_offer_193 : decode cX5_offer 193 = .ok (.iload 5, 2) := by decide +kernel
theorem dX5_offer_195 : decode cX5_offer 195 = .ok (.iaload, 1) := by decide +kernel
theorem dX5_offer_196 : decode cX5_offer 196 = .ok (.iastore, 1) := by decide +kernel
theorem dX5_offer_197 : decode cX5_offer 197 = .ok (.aload_n 0, 1) := by decide +kernel
theorem dX5_offer_198 : decode cX5_offer 198 = .ok (.getfield 69, 3) := by decide +kernel
theorem dX5_offer_201 : decode cX5_offer 201 = .ok (.iload_n 1, 1) := by decide +kernel
theorem dX5_offer_202 : decode cX5_offer 202 = .ok (.dup2, 1) := by decide +kernel
theorem dX5_offer_203 : decode cX5_offer 203 = .ok (.iaload, 1) := by decide +kernel
theorem dX5_offer_204 : decode cX5_offer 204 = .ok (.iconst 1, 1) := by decide +kernel
theorem dX5_offer_205 : decode cX5_offer 205 = .ok (.isub, 1) := by decide +kernel
theorem dX5_offer_206 : decode cX5_offer 206 = .ok (.iastore, 1) := by decide +kernel
theorem dX5_offer_207 : decode cX5_offer 207 = .ok (.goto 57, 3) := by decide +kernel
theorem dX5_offer_210 : decode cX5_offer 210 = .ok (.iload 4, 2) := by decide +kernel
theorem dX5_offer_212 : decode cX5_offer 212 = .ok (.iconst (-1), 1) := by decide +kernel
theorem dX5_offer_213 : decode cX5_offer 213 = .ok (.if_icmp .ne 10, 3) := by decide +kernel
theorem dX5_offer_216 : decode cX5_offer 216 = .ok (.iload 5, 2) := by decide +kernel
theorem dX5_offer_218 : decode cX5_offer 218 = .ok (.iconst 1, 1) := by decide +kernel
theorem dX5_offer_219 : decode cX5_offer 219 = .ok (.iadd, 1) := by decide +kernel
theorem dX5_offer_220 : decode cX5_offer 220 = .ok (.goto 5, 3) := by decide +kernel
theorem dX5_offer_223 : decode cX5_offer 223 = .ok (.iload 4, 2) := by decide +kernel
theorem dX5_offer_225 : decode cX5_offer 225 = .ok (.istore 4, 2) := by decide +kernel
theorem dX5_offer_227 : decode cX5_offer 227 = .ok (.aload_n 0, 1) := by decide +kernel
theorem dX5_offer_228 : decode cX5_offer 228 = .ok (.getfield 69, 3) := by decide +kernel
theorem dX5_offer_231 : decode cX5_offer 231 = .ok (.iload_n 1, 1) := by decide +kernel
theorem dX5_offer_232 : decode cX5_offer 232 = .ok (.dup2, 1) := by decide +kernel
theorem dX5_offer_233 : decode cX5_offer 233 = .ok (.iaload, 1) := by decide +kernel
theorem dX5_offer_234 : decode cX5_offer 234 = .ok (.iload 4, 2) := by decide +kernel
theorem dX5_offer_236 : decode cX5_offer 236 = .ok (.iload 5, 2) := by decide +kernel
theorem dX5_offer_238 : decode cX5_offer 238 = .ok (.if_icmp .le 7, 3) := by decide +kernel
theorem dX5_offer_241 : decode cX5_offer 241 = .ok (.iconst 1, 1) := by decide +kernel
theorem dX5_offer_242 : decode cX5_offer 242 = .ok (.goto 4, 3) := by decide +kernel
theorem dX5_offer_245 : decode cX5_offer 245 = .ok (.iconst 0, 1) := by decide +kernel
theorem dX5_offer_246 : decode cX5_offer 246 = .ok (.iadd, 1) := by decide +kernel
theorem dX5_offer_247 : decode cX5_offer 247 = .ok (.iastore, 1) := by decide +kernel
theorem dX5_offer_248 : decode cX5_offer 248 = .ok (.aload_n 0, 1) := by decide +kernel
theorem dX5_offer_249 : decode cX5_offer 249 = .ok (.getfield 72, 3) := by decide +kernel
theorem dX5_offer_252 : decode cX5_offer 252 = .ok (.iload 4, 2) := by decide +kernel
theorem dX5_offer_254 : decode cX5_offer 254 = .ok (.iload_n 2, 1) := by decide +kernel
theorem dX5_offer_255 : decode cX5_offer 255 = .ok (.iastore, 1) := by decide +kernel
theorem dX5_offer_256 : decode cX5_offer 256 = .ok (.aload_n 0, 1) := by decide +kernel
theorem dX5_offer_257 : decode cX5_offer 257 = .ok (.getfield 75, 3) := by decide +kernel
theorem dX5_offer_260 : decode cX5_offer 260 = .ok (.iload 4, 2) := by decide +kernel
theorem dX5_offer_262 : decode cX5_offer 262 = .ok (.iload_n 3, 1) := by decide +kernel
theorem dX5_offer_263 : decode cX5_offer 263 = .ok (.iastore, 1) := by decide +kernel
theorem dX5_offer_264 : decode cX5_offer 264 = .ok (.iload 6, 2) := by decide +kernel
theorem dX5_offer_266 : decode cX5_offer 266 = .ok (.ireturn, 1) := by decide +kernel
set_option maxRecDepth 20000 in
theorem ggX5_offerOf_X5_fits : GoodIn wsX5_offerOf wsX5_fits := goodIn_r _ [7] (by decide +kernel) (by decide +kernel)
set_option maxRecDepth 20000 in
theorem gX5_offerOf_X5_fits : GoodIn wsX5_offerOf (va_wsS RX5 120 yX5_fits wsX5_fits) := goodIn_app (goodIn_of _ (by decide +kernel)) ggX5_offerOf_X5_fits
theorem dX5_offerOf_0 : decode cX5_offerOf 0 = .ok (.iconst (-1), 1) := by decide +kernel
theorem dX5_offerOf_1 : decode cX5_offerOf 1 = .ok (.istore_n 3, 1) := by decide +kernel
theorem dX5_offerOf_2 : decode cX5_offerOf 2 = .ok (.bipush 10, 2) := by decide +kernel
theorem dX5_offerOf_4 : decode cX5_offerOf 4 = .ok (.iload_n 1, 1) := by decide +kernel
theorem dX5_offerOf_5 : decode cX5_offerOf 5 = .ok (.imul, 1) := by decide +kernel
theorem dX5_offerOf_6 : decode cX5_offerOf 6 = .ok (.istore 4, 2) := by decide +kernel
theorem dX5_offerOf_8 : decode cX5_offerOf 8 = .ok (.iload 4, 2) := by decide +kernel
theorem dX5_offerOf_10 : decode cX5_offerOf 10 = .ok (.bipush 10, 2) := by decide +kernel
theorem dX5_offerOf_12 : decode cX5_offerOf 12 = .ok (.iload_n 1, 1) := by decide +kernel
theorem dX5_offerOf_13 : decode cX5_offerOf 13 = .ok (.imul, 1) := by decide +kernel
theorem dX5_offerOf_14 : decode cX5_offerOf 14 = .ok (.aload_n 0, 1) := by decide +kernel
theorem dX5_offerOf_15 : decode cX5_offerOf 15 = .ok (.getfield 69, 3) := by decide +kernel
theorem dX5_offerOf_18 : decode cX5_offerOf 18 = .ok (.iload_n 1, 1) := by decide +kernel
theorem dX5_offerOf_19 : decode cX5_offerOf 19 = .ok (.iaload, 1) := by decide +kernel
theorem dX5_offerOf_20 : decode cX5_offerOf 20 = .ok (.iadd, 1) := by decide +kernel
theorem dX5_offerOf_21 : decode cX5_offerOf 21 = .ok (.if_icmp .ge 51, 3) := by decide +kernel
theorem dX5_offerOf_24 : decode cX5_offerOf 24 = .ok (.aload_n 0, 1) := by decide +kernel
theorem dX5_offerOf_25 : decode cX5_offerOf 25 = .ok (.getfield 72, 3) := by decide +kernel
theorem dX5_offerOf_28 : decode cX5_offerOf 28 = .ok (.iload 4, 2) := by decide +kernel
theorem dX5_offerOf_30 : decode cX5_offerOf 30 = .ok (.iaload, 1) := by decide +kernel
theorem dX5_offerOf_31 : decode cX5_offerOf 31 = .ok (.iload_n 2, 1) := by decide +kernel
theorem dX5_offerOf_32 : decode cX5_offerOf 32 = .ok (.invokestatic 120, 3) := by decide +kernel
theorem dX5_offerOf_35 : decode cX5_offerOf 35 = .ok (.ifCond .eq 29, 3) := by decide +kernel
theorem dX5_offerOf_38 : decode cX5_offerOf 38 = .ok (.iload_n 3, 1) := by decide +kernel
theorem dX5_offerOf_39 : decode cX5_offerOf 39 = .ok (.iconst (-1), 1) := by decide +kernel
theorem dX5_offerOf_40 : decode cX5_offerOf 40 = .ok (.if_icmp .eq 19, 3) := by decide +kernel
theorem dX5_offerOf_43 : decode cX5_offerOf 43 = .ok (.aload_n 0, 1) := by decide +kernel
theorem dX5_offerOf_44 : decode cX5_offerOf 44 = .ok (.getfield 72, 3) := by decide +kernel
theorem dX5_offerOf_47 : decode cX5_offerOf 47 = .ok (.iload 4, 2) := by decide +kernel
theorem dX5_offerOf_49 : decode cX5_offerOf 49 = .ok (.iaload, 1) := by decide +kernel
theorem dX5_offerOf_50 : decode cX5_offerOf 50 = .ok (.aload_n 0, 1) := by decide +kernel
theorem dX5_offerOf_51 : decode cX5_offerOf 51 = .ok (.getfield 72, 3) := by decide +kernel
theorem dX5_offerOf_54 : decode cX5_offerOf 54 = .ok (.iload_n 3, 1) := by decide +kernel
theorem dX5_offerOf_55 : decode cX5_offerOf 55 = .ok (.iaload, 1) := by decide +kernel
theorem dX5_offerOf_56 : decode cX5_offerOf 56 = .ok (.if_icmp .le 8, 3) := by decide +kernel
theorem dX5_offerOf_59 : decode cX5_offerOf 59 = .ok (.iload 4, 2) := by decide +kernel
theorem dX5_offerOf_61 : decode cX5_offerOf 61 = .ok (.goto 4, 3) := by decide +kernel
theorem dX5_offerOf_64 : decode cX5_offerOf 64 = .ok (.iload_n 3, 1) := by decide +kernel
theorem dX5_offerOf_65 : decode cX5_offerOf 65 = .ok (.istore_n 3, 1) := by decide +kernel
theorem dX5_offerOf_66 : decode cX5_offerOf 66 = .ok (.iinc 4 1, 3) := by decide +kernel
theorem dX5_offerOf_69 : decode cX5_offerOf 69 = .ok (.goto (-61), 3) := by decide +kernel
theorem dX5_offerOf_72 : decode cX5_offerOf 72 = .ok (.iload_n 3, 1) := by decide +kernel
theorem dX5_offerOf_73 : decode cX5_offerOf 73 = .ok (.iconst (-1), 1) := by decide +kernel
theorem dX5_offerOf_74 : decode cX5_offerOf 74 = .ok (.if_icmp .ne 7, 3) := by decide +kernel
theorem dX5_offerOf_77 : decode cX5_offerOf 77 = .ok (.iconst (-1), 1) := by decide +kernel
theorem dX5_offerOf_78 : decode cX5_offerOf 78 = .ok (.goto 9, 3) := by decide +kernel
theorem dX5_offerOf_81 : decode cX5_offerOf 81 = .ok (.aload_n 0, 1) := by decide +kernel
theorem dX5_offerOf_82 : decode cX5_offerOf 82 = .ok (.getfield 75, 3) := by decide +kernel
theorem dX5_offerOf_85 : decode cX5_offerOf 85 = .ok (.iload_n 3, 1) := by decide +kernel
theorem dX5_offerOf_86 : decode cX5_offerOf 86 = .ok (.iaload, 1) := by decide +kernel
theorem dX5_offerOf_87 : decode cX5_offerOf 87 = .ok (.ireturn, 1) := by decide +kernel
set_option maxRecDepth 20000 in
theorem ggX5_offerFor_X5_in : GoodIn wsX5_offerFor wsX5_in := goodIn_r _ [4] (by decide +kernel) (by decide +kernel)
set_option maxRecDepth 20000 in
theorem gX5_offerFor_X5_in : GoodIn wsX5_offerFor (va_wsS RX5 82 yX5_in wsX5_in) := goodIn_app (goodIn_of _ (by decide +kernel)) ggX5_offerFor_X5_in
set_option maxRecDepth 20000 in
theorem ggX5_offerFor_X5_isNumber : GoodIn wsX5_offerFor wsX5_isNumber := goodIn_r _ [7, 8, 1, 2, 3, 4] (by decide +kernel) (by decide +kernel)
set_option maxRecDepth 20000 in
theorem gX5_offerFor_X5_isNumber : GoodIn wsX5_offerFor (va_wsS RX5 98 yX5_isNumber wsX5_isNumber) := goodIn_app (goodIn_of _ (by decide +kernel)) ggX5_offerFor_X5_isNumber
set_option maxRecDepth 20000 in
theorem ggX5_offerFor_X5_asks : GoodIn wsX5_offerFor wsX5_asks := goodIn_r _ [12, 13, 28, 29, 30, 31, 32, 33, 34, 35, 36, 37, 38, 39, 40, 41, 42, 43, 44, 45, 46, 47, 48, 49, 50, 51, 52, 53] (by decide +kernel) (by decide +kernel)
set_option maxRecDepth 20000 in
theorem gX5_offerFor_X5_asks : GoodIn wsX5_offerFor (wsV RX5 87 RX5 yX5_asks wsX5_asks) := goodIn_app (goodIn_of _ (by decide +kernel)) ggX5_offerFor_X5_asks
set_option maxRecDepth 20000 in
theorem ggX5_offerFor_X5_offerOf : GoodIn wsX5_offerFor wsX5_offerOf := goodIn_r _ [17, 18, 19, 20, 21, 22, 3, 23, 28, 29, 30, 31, 32, 33, 34, 35, 36, 37, 38, 39, 40, 41, 42, 43, 44, 45, 46, 47, 48, 49, 50, 51, 52, 53] (by decide +kernel) (by decide +kernel)
set_option maxRecDepth 20000 in
theorem gX5_offerFor_X5_offerOf : GoodIn wsX5_offerFor (wsV RX5 136 RX5 yX5_offerOf wsX5_offerOf) := goodIn_app (goodIn_of _ (by decide +kernel)) ggX5_offerFor_X5_offerOf
set_option maxRecDepth 20000 in
theorem ggX5_offerFor_X5_fails : GoodIn wsX5_offerFor wsX5_fails := goodIn_r _ [27, 13, 28, 29, 30, 31, 32, 33, 34, 35, 36, 37, 38, 39, 40, 41, 42, 43, 44, 45, 46, 47, 48, 49, 50, 51, 52, 53] (by decide +kernel) (by decide +kernel)
set_option maxRecDepth 20000 in
theorem gX5_offerFor_X5_fails : GoodIn wsX5_offerFor (wsV RX5 107 RX5 yX5_fails wsX5_fails) := goodIn_app (goodIn_of _ (by decide +kernel)) ggX5_offerFor_X5_fails
theorem dX5_offerFor_0 : decode cX5_offerFor 0 = .ok (.aload_n 0, 1) := by decide +kernel
theorem dX5_offerFor_1 : decode cX5_offerFor 1 = .ok (.iload_n 1, 1) := by decide +kernel
theorem dX5_offerFor_2 : decode cX5_offerFor 2 = .ok (.iconst 0, 1) := by decide +kernel
theorem dX5_offerFor_3 : decode cX5_offerFor 3 = .ok (.iconst 3, 1) := by decide +kernel
theorem dX5_offerFor_4 : decode cX5_offerFor 4 = .ok (.invokestatic 82, 3) := by decide +kernel
theorem dX5_offerFor_7 : decode cX5_offerFor 7 = .ok (.ifCond .eq 14, 3) := by decide +kernel
theorem dX5_offerFor_10 : decode cX5_offerFor 10 = .ok (.iload_n 2, 1) := by decide +kernel
theorem dX5_offerFor_11 : decode cX5_offerFor 11 = .ok (.invokestatic 98, 3) := by decide +kernel
theorem dX5_offerFor_14 : decode cX5_offerFor 14 = .ok (.ifCond .eq 7, 3) := by decide +kernel
theorem dX5_offerFor_17 : decode cX5_offerFor 17 = .ok (.iconst 1, 1) := by decide +kernel
theorem dX5_offerFor_18 : decode cX5_offerFor 18 = .ok (.goto 4, 3) := by decide +kernel
theorem dX5_offerFor_21 : decode cX5_offerFor 21 = .ok (.iconst 0, 1) := by decide +kernel
theorem dX5_offerFor_22 : decode cX5_offerFor 22 = .ok (.invokevirtual 87, 3) := by decide +kernel
theorem dX5_offerFor_25 : decode cX5_offerFor 25 = .ok (.ifCond .ne 5, 3) := by decide +kernel
theorem dX5_offerFor_28 : decode cX5_offerFor 28 = .ok (.iconst 0, 1) := by decide +kernel
theorem dX5_offerFor_29 : decode cX5_offerFor 29 = .ok (.ireturn, 1) := by decide +kernel
theorem dX5_offerFor_30 : decode cX5_offerFor 30 = .ok (.aload_n 0, 1) := by decide +kernel
theorem dX5_offerFor_31 : decode cX5_offerFor 31 = .ok (.iload_n 1, 1) := by decide +kernel
theorem dX5_offerFor_32 : decode cX5_offerFor 32 = .ok (.iload_n 2, 1) := by decide +kernel
theorem dX5_offerFor_33 : decode cX5_offerFor 33 = .ok (.invokevirtual 136, 3) := by decide +kernel
theorem dX5_offerFor_36 : decode cX5_offerFor 36 = .ok (.istore_n 3, 1) := by decide +kernel
theorem dX5_offerFor_37 : decode cX5_offerFor 37 = .ok (.iload_n 3, 1) := by decide +kernel
theorem dX5_offerFor_38 : decode cX5_offerFor 38 = .ok (.iconst (-1), 1) := by decide +kernel
theorem dX5_offerFor_39 : decode cX5_offerFor 39 = .ok (.if_icmp .ne 11, 3) := by decide +kernel
theorem dX5_offerFor_42 : decode cX5_offerFor 42 = .ok (.aload_n 0, 1) := by decide +kernel
theorem dX5_offerFor_43 : decode cX5_offerFor 43 = .ok (.iconst 2, 1) := by decide +kernel
theorem dX5_offerFor_44 : decode cX5_offerFor 44 = .ok (.invokevirtual 107, 3) := by decide +kernel
theorem dX5_offerFor_47 : decode cX5_offerFor 47 = .ok (.goto 4, 3) := by decide +kernel
theorem dX5_offerFor_50 : decode cX5_offerFor 50 = .ok (.iload_n 3, 1) := by decide +kernel
theorem dX5_offerFor_51 : decode cX5_offerFor 51 = .ok (.ireturn, 1) := by decide +kernel
set_option maxRecDepth 20000 in
theorem ggX5_route_X5_isNumber : GoodIn wsX5_route wsX5_isNumber := goodIn_r _ [5, 6, 7, 8, 4, 9] (by decide +kernel) (by decide +kernel)
set_option maxRecDepth 20000 in
theorem gX5_route_X5_isNumber : GoodIn wsX5_route (va_wsS RX5 98 yX5_isNumber wsX5_isNumber) := goodIn_app (goodIn_of _ (by decide +kernel)) ggX5_route_X5_isNumber
set_option maxRecDepth 20000 in
theorem ggX5_route_X5_in : GoodIn wsX5_route wsX5_in := goodIn_r _ [9] (by decide +kernel) (by decide +kernel)
set_option maxRecDepth 20000 in
theorem gX5_route_X5_in : GoodIn wsX5_route (va_wsS RX5 82 yX5_in wsX5_in) := goodIn_app (goodIn_of _ (by decide +kernel)) ggX5_route_X5_in
set_option maxRecDepth 20000 in
theorem ggX5_route_X5_asks : GoodIn wsX5_route wsX5_asks := goodIn_r _ [13, 14, 36, 37, 38, 39, 40, 41, 42, 43, 44, 45, 46, 47, 48, 49, 50, 51, 52, 53, 54, 55, 56, 57, 58, 59, 60, 61] (by decide +kernel) (by decide +kernel)
set_option maxRecDepth 20000 in
theorem gX5_route_X5_asks : GoodIn wsX5_route (wsV RX5 87 RX5 yX5_asks wsX5_asks) := goodIn_app (goodIn_of _ (by decide +kernel)) ggX5_route_X5_asks
set_option maxRecDepth 20000 in
theorem ggX5_route_X5_rate : GoodIn wsX5_route wsX5_rate := goodIn_r _ [18, 19, 20, 21, 22, 23, 4, 24, 36, 37, 38, 39, 40, 41, 42, 43, 44, 45, 46, 47, 48, 49, 50, 51, 52, 53, 54, 55, 56, 57, 58, 59, 60, 61] (by decide +kernel) (by decide +kernel)
set_option maxRecDepth 20000 in
theorem gX5_route_X5_rate : GoodIn wsX5_route (wsV RX5 124 RX5 yX5_rate wsX5_rate) := goodIn_app (goodIn_of _ (by decide +kernel)) ggX5_route_X5_rate
set_option maxRecDepth 20000 in
theorem ggX5_route_X5_offerOf : GoodIn wsX5_route wsX5_offerOf := goodIn_r _ [28, 29, 30, 31, 22, 23, 4, 24, 36, 37, 38, 39, 40, 41, 42, 43, 44, 45, 46, 47, 48, 49, 50, 51, 52, 53, 54, 55, 56, 57, 58, 59, 60, 61] (by decide +kernel) (by decide +kernel)
set_option maxRecDepth 20000 in
theorem gX5_route_X5_offerOf : GoodIn wsX5_route (wsV RX5 136 RX5 yX5_offerOf wsX5_offerOf) := goodIn_app (goodIn_of _ (by decide +kernel)) ggX5_route_X5_offerOf
set_option maxRecDepth 20000 in
theorem ggX5_route_X5_fails : GoodIn wsX5_route wsX5_fails := goodIn_r _ [35, 14, 36, 37, 38, 39, 40, 41, 42, 43, 44, 45, 46, 47, 48, 49, 50, 51, 52, 53, 54, 55, 56, 57, 58, 59, 60, 61] (by decide +kernel) (by decide +kernel)
set_option maxRecDepth 20000 in
theorem gX5_route_X5_fails : GoodIn wsX5_route (wsV RX5 107 RX5 yX5_fails wsX5_fails) := goodIn_app (goodIn_of _ (by decide +kernel)) ggX5_route_X5_fails
theorem dX5_route_0 : decode cX5_route 0 = .ok (.aload_n 0, 1) := by decide +kernel
theorem dX5_route_1 : decode cX5_route 1 = .ok (.iload_n 1, 1) := by decide +kernel
theorem dX5_route_2 : decode cX5_route 2 = .ok (.invokestatic 98, 3) := by decide +kernel
theorem dX5_route_5 : decode cX5_route 5 = .ok (.ifCond .eq 34, 3) := by decide +kernel
theorem dX5_route_8 : decode cX5_route 8 = .ok (.iload_n 2, 1) := by decide +kernel
theorem dX5_route_9 : decode cX5_route 9 = .ok (.iconst 0, 1) := by decide +kernel
theorem dX5_route_10 : decode cX5_route 10 = .ok (.sipush 999, 3) := by decide +kernel
theorem dX5_route_13 : decode cX5_route 13 = .ok (.invokestatic 82, 3) := by decide +kernel
theorem dX5_route_16 : decode cX5_route 16 = .ok (.ifCond .eq 23, 3) := by decide +kernel
theorem dX5_route_19 : decode cX5_route 19 = .ok (.iload_n 3, 1) := by decide +kernel
theorem dX5_route_20 : decode cX5_route 20 = .ok (.iconst 0, 1) := by decide +kernel
theorem dX5_route_21 : decode cX5_route 21 = .ok (.sipush 10000, 3) := by decide +kernel
theorem dX5_route_24 : decode cX5_route 24 = .ok (.invokestatic 82, 3) := by decide +kernel
theorem dX5_route_27 : decode cX5_route 27 = .ok (.ifCond .eq 12, 3) := by decide +kernel
theorem dX5_route_30 : decode cX5_route 30 = .ok (.iload 4, 2) := by decide +kernel
theorem dX5_route_32 : decode cX5_route 32 = .ok (.ifCond .lt 7, 3) := by decide +kernel
theorem dX5_route_35 : decode cX5_route 35 = .ok (.iconst 1, 1) := by decide +kernel
theorem dX5_route_36 : decode cX5_route 36 = .ok (.goto 4, 3) := by decide +kernel
theorem dX5_route_39 : decode cX5_route 39 = .ok (.iconst 0, 1) := by decide +kernel
theorem dX5_route_40 : decode cX5_route 40 = .ok (.invokevirtual 87, 3) := by decide +kernel
theorem dX5_route_43 : decode cX5_route 43 = .ok (.ifCond .ne 5, 3) := by decide +kernel
theorem dX5_route_46 : decode cX5_route 46 = .ok (.iconst 0, 1) := by decide +kernel
theorem dX5_route_47 : decode cX5_route 47 = .ok (.ireturn, 1) := by decide +kernel
theorem dX5_route_48 : decode cX5_route 48 = .ok (.aload_n 0, 1) := by decide +kernel
theorem dX5_route_49 : decode cX5_route 49 = .ok (.iload_n 1, 1) := by decide +kernel
theorem dX5_route_50 : decode cX5_route 50 = .ok (.iload_n 2, 1) := by decide +kernel
theorem dX5_route_51 : decode cX5_route 51 = .ok (.invokevirtual 124, 3) := by decide +kernel
theorem dX5_route_54 : decode cX5_route 54 = .ok (.istore 5, 2) := by decide +kernel
theorem dX5_route_56 : decode cX5_route 56 = .ok (.iconst (-1), 1) := by decide +kernel
theorem dX5_route_57 : decode cX5_route 57 = .ok (.istore 6, 2) := by decide +kernel
theorem dX5_route_59 : decode cX5_route 59 = .ok (.iconst 0, 1) := by decide +kernel
theorem dX5_route_60 : decode cX5_route 60 = .ok (.istore 7, 2) := by decide +kernel
theorem dX5_route_62 : decode cX5_route 62 = .ok (.iload 7, 2) := by decide +kernel
theorem dX5_route_64 : decode cX5_route 64 = .ok (.iconst 4, 1) := by decide +kernel
theorem dX5_route_65 : decode cX5_route 65 = .ok (.if_icmp .ge 124, 3) := by decide +kernel
theorem dX5_route_68 : decode cX5_route 68 = .ok (.iload 5, 2) := by decide +kernel
theorem dX5_route_70 : decode cX5_route 70 = .ok (.iconst (-1), 1) := by decide +kernel
theorem dX5_route_71 : decode cX5_route 71 = .ok (.if_icmp .eq 118, 3) := by decide +kernel
theorem dX5_route_74 : decode cX5_route 74 = .ok (.aload_n 0, 1) := by decide +kernel
theorem dX5_route_75 : decode cX5_route 75 = .ok (.iload 7, 2) := by decide +kernel
theorem dX5_route_77 : decode cX5_route 77 = .ok (.iload_n 1, 1) := by decide +kernel
theorem dX5_route_78 : decode cX5_route 78 = .ok (.invokevirtual 136, 3) := by decide +kernel
theorem dX5_route_81 : decode cX5_route 81 = .ok (.istore 8, 2) := by decide +kernel
theorem dX5_route_83 : decode cX5_route 83 = .ok (.iconst 0, 1) := by decide +kernel
theorem dX5_route_84 : decode cX5_route 84 = .ok (.istore 9, 2) := by decide +kernel
theorem dX5_route_86 : decode cX5_route 86 = .ok (.iconst 0, 1) := by decide +kernel
theorem dX5_route_87 : decode cX5_route 87 = .ok (.istore 10, 2) := by decide +kernel
theorem dX5_route_89 : decode cX5_route 89 = .ok (.iload 10, 2) := by decide +kernel
theorem dX5_route_91 : decode cX5_route 91 = .ok (.iconst 4, 1) := by decide +kernel
theorem dX5_route_92 : decode cX5_route 92 = .ok (.if_icmp .ge 55, 3) := by decide +kernel
theorem dX5_route_95 : decode cX5_route 95 = .ok (.aload_n 0, 1) := by decide +kernel
theorem dX5_route_96 : decode cX5_route 96 = .ok (.iload 10, 2) := by decide +kernel
theorem dX5_route_98 : decode cX5_route 98 = .ok (.iload_n 1, 1) := by decide +kernel
theorem dX5_route_99 : decode cX5_route 99 = .ok (.invokevirtual 136, 3) := by decide +kernel
theorem dX5_route_102 : decode cX5_route 102 = .ok (.istore 11, 2) := by decide +kernel
theorem dX5_route_104 : decode cX5_route 104 = .ok (.iload 9, 2) := by decide +kernel
theorem dX5_route_106 : decode cX5_route 106 = .ok (.iload 11, 2) := by decide +kernel
theorem dX5_route_108 : decode cX5_route 108 = .ok (.iconst (-1), 1) := by decide +kernel
theorem dX5_route_109 : decode cX5_route 109 = .ok (.if_icmp .eq 28, 3) := by decide +kernel
theorem dX5_route_112 : decode cX5_route 112 = .ok (.iload 11, 2) := by decide +kernel
theorem dX5_route_114 : decode cX5_route 114 = .ok (.iload 8, 2) := by decide +kernel
theorem dX5_route_116 : decode cX5_route 116 = .ok (.if_icmp .lt 17, 3) := by decide +kernel
theorem dX5_route_119 : decode cX5_route 119 = .ok (.iload 11, 2) := by decide +kernel
theorem dX5_route_121 : decode cX5_route 121 = .ok (.iload 8, 2) := by decide +kernel
theorem dX5_route_123 : decode cX5_route 123 = .ok (.if_icmp .ne 14, 3) := by decide +kernel
theorem dX5_route_126 : decode cX5_route 126 = .ok (.iload 10, 2) := by decide +kernel
theorem dX5_route_128 : decode cX5_route 128 = .ok (.iload 7, 2) := by decide +kernel
theorem dX5_route_130 : decode cX5_route 130 = .ok (.if_icmp .ge 7, 3) := by decide +kernel
theorem dX5_route_133 : decode cX5_route 133 = .ok (.iconst 1, 1) := by decide +kernel
theorem dX5_route_134 : decode cX5_route 134 = .ok (.goto 4, 3) := by decide +kernel
theorem dX5_route_137 : decode cX5_route 137 = .ok (.iconst 0, 1) := by decide +kernel
theorem dX5_route_138 : decode cX5_route 138 = .ok (.iadd, 1) := by decide +kernel
theorem dX5_route_139 : decode cX5_route 139 = .ok (.istore 9, 2) := by decide +kernel
theorem dX5_route_141 : decode cX5_route 141 = .ok (.iinc 10 1, 3) := by decide +kernel
theorem dX5_route_144 : decode cX5_route 144 = .ok (.goto (-55), 3) := by decide +kernel
theorem dX5_route_147 : decode cX5_route 147 = .ok (.iload 8, 2) := by decide +kernel
theorem dX5_route_149 : decode cX5_route 149 = .ok (.iconst (-1), 1) := by decide +kernel
theorem dX5_route_150 : decode cX5_route 150 = .ok (.if_icmp .eq 29, 3) := by decide +kernel
theorem dX5_route_153 : decode cX5_route 153 = .ok (.iload 8, 2) := by decide +kernel
theorem dX5_route_155 : decode cX5_route 155 = .ok (.aload_n 0, 1) := by decide +kernel
theorem dX5_route_156 : decode cX5_route 156 = .ok (.getfield 57, 3) := by decide +kernel
theorem dX5_route_159 : decode cX5_route 159 = .ok (.iload 5, 2) := by decide +kernel
theorem dX5_route_161 : decode cX5_route 161 = .ok (.iaload, 1) := by decide +kernel
theorem dX5_route_162 : decode cX5_route 162 = .ok (.iload_n 3, 1) := by decide +kernel
theorem dX5_route_163 : decode cX5_route 163 = .ok (.isub, 1) := by decide +kernel
theorem dX5_route_164 : decode cX5_route 164 = .ok (.if_icmp .gt 15, 3) := by decide +kernel
theorem dX5_route_167 : decode cX5_route 167 = .ok (.iload 9, 2) := by decide +kernel
theorem dX5_route_169 : decode cX5_route 169 = .ok (.iload 4, 2) := by decide +kernel
theorem dX5_route_171 : decode cX5_route 171 = .ok (.if_icmp .ne 8, 3) := by decide +kernel
theorem dX5_route_174 : decode cX5_route 174 = .ok (.iload 7, 2) := by decide +kernel
theorem dX5_route_176 : decode cX5_route 176 = .ok (.goto 5, 3) := by decide +kernel
theorem dX5_route_179 : decode cX5_route 179 = .ok (.iload 6, 2) := by decide +kernel
theorem dX5_route_181 : decode cX5_route 181 = .ok (.istore 6, 2) := by decide +kernel
theorem dX5_route_183 : decode cX5_route 183 = .ok (.iinc 7 1, 3) := by decide +kernel
theorem dX5_route_186 : decode cX5_route 186 = .ok (.goto (-124), 3) := by decide +kernel
theorem dX5_route_189 : decode cX5_route 189 = .ok (.iload 6, 2) := by decide +kernel
theorem dX5_route_191 : decode cX5_route 191 = .ok (.iconst (-1), 1) := by decide +kernel
theorem dX5_route_192 : decode cX5_route 192 = .ok (.if_icmp .ne 11, 3) := by decide +kernel
theorem dX5_route_195 : decode cX5_route 195 = .ok (.aload_n 0, 1) := by decide +kernel
theorem dX5_route_196 : decode cX5_route 196 = .ok (.iconst 2, 1) := by decide +kernel
theorem dX5_route_197 : decode cX5_route 197 = .ok (.invokevirtual 107, 3) := by decide +kernel
theorem dX5_route_200 : decode cX5_route 200 = .ok (.goto 5, 3) := by decide +kernel
theorem dX5_route_203 : decode cX5_route 203 = .ok (.iload 6, 2) := by decide +kernel
theorem dX5_route_205 : decode cX5_route 205 = .ok (.ireturn, 1) := by decide +kernel
set_option maxRecDepth 20000 in
theorem ggX5_claim_X5_isCall : GoodIn wsX5_claim wsX5_isCall := goodIn_r _ [7, 8, 21, 22, 23, 24, 25, 26, 27, 28, 29, 30, 31, 32, 33, 34, 35, 36, 37, 38, 39, 40, 41, 42, 43, 44, 45, 46] (by decide +kernel) (by decide +kernel)
set_option maxRecDepth 20000 in
theorem gX5_claim_X5_isCall : GoodIn wsX5_claim (wsV RX5 111 RX5 yX5_isCall wsX5_isCall) := goodIn_app (goodIn_of _ (by decide +kernel)) ggX5_claim_X5_isCall
set_option maxRecDepth 20000 in
theorem ggX5_claim_X5_asks : GoodIn wsX5_claim wsX5_asks := goodIn_r _ [12, 13, 21, 22, 23, 24, 25, 26, 27, 28, 29, 30, 31, 32, 33, 34, 35, 36, 37, 38, 39, 40, 41, 42, 43, 44, 45, 46] (by decide +kernel) (by decide +kernel)
set_option maxRecDepth 20000 in
theorem gX5_claim_X5_asks : GoodIn wsX5_claim (wsV RX5 87 RX5 yX5_asks wsX5_asks) := goodIn_app (goodIn_of _ (by decide +kernel)) ggX5_claim_X5_asks
set_option maxRecDepth 20000 in
theorem ggX5_claim_X5_in : GoodIn wsX5_claim wsX5_in := goodIn_r _ [16] (by decide +kernel) (by decide +kernel)
set_option maxRecDepth 20000 in
theorem gX5_claim_X5_in : GoodIn wsX5_claim (va_wsS RX5 82 yX5_in wsX5_in) := goodIn_app (goodIn_of _ (by decide +kernel)) ggX5_claim_X5_in
set_option maxRecDepth 20000 in
theorem ggX5_claim_X5_fails : GoodIn wsX5_claim wsX5_fails := goodIn_r _ [20, 13, 21, 22, 23, 24, 25, 26, 27, 28, 29, 30, 31, 32, 33, 34, 35, 36, 37, 38, 39, 40, 41, 42, 43, 44, 45, 46] (by decide +kernel) (by decide +kernel)
set_option maxRecDepth 20000 in
theorem gX5_claim_X5_fails : GoodIn wsX5_claim (wsV RX5 107 RX5 yX5_fails wsX5_fails) := goodIn_app (goodIn_of _ (by decide +kernel)) ggX5_claim_X5_fails
theorem dX5_claim_0 : decode cX5_claim 0 = .ok (.aload_n 0, 1) := by decide +kernel
theorem dX5_claim_1 : decode cX5_claim 1 = .ok (.aload_n 0, 1) := by decide +kernel
theorem dX5_claim_2 : decode cX5_claim 2 = .ok (.iload_n 1, 1) := by decide +kernel
theorem dX5_claim_3 : decode cX5_claim 3 = .ok (.invokevirtual 111, 3) := by decide +kernel
theorem dX5_claim_6 : decode cX5_claim 6 = .ok (.invokevirtual 87, 3) := by decide +kernel
theorem dX5_claim_9 : decode cX5_claim 9 = .ok (.ifCond .ne 5, 3) := by decide +kernel
theorem dX5_claim_12 : decode cX5_claim 12 = .ok (.iconst 0, 1) := by decide +kernel
theorem dX5_claim_13 : decode cX5_claim 13 = .ok (.ireturn, 1) := by decide +kernel
theorem dX5_claim_14 : decode cX5_claim 14 = .ok (.iload_n 2, 1) := by decide +kernel
theorem dX5_claim_15 : decode cX5_claim 15 = .ok (.iconst 0, 1) := by decide +kernel
theorem dX5_claim_16 : decode cX5_claim 16 = .ok (.ldc 139, 2) := by decide +kernel
theorem dX5_claim_18 : decode cX5_claim 18 = .ok (.invokestatic 82, 3) := by decide +kernel
theorem dX5_claim_21 : decode cX5_claim 21 = .ok (.ifCond .ne 9, 3) := by decide +kernel
theorem dX5_claim_24 : decode cX5_claim 24 = .ok (.aload_n 0, 1) := by decide +kernel
theorem dX5_claim_25 : decode cX5_claim 25 = .ok (.iconst 2, 1) := by decide +kernel
theorem dX5_claim_26 : decode cX5_claim 26 = .ok (.invokevirtual 107, 3) := by decide +kernel
theorem dX5_claim_29 : decode cX5_claim 29 = .ok (.ireturn, 1) := by decide +kernel
theorem dX5_claim_30 : decode cX5_claim 30 = .ok (.aload_n 0, 1) := by decide +kernel
theorem dX5_claim_31 : decode cX5_claim 31 = .ok (.getfield 48, 3) := by decide +kernel
theorem dX5_claim_34 : decode cX5_claim 34 = .ok (.iload_n 1, 1) := by decide +kernel
theorem dX5_claim_35 : decode cX5_claim 35 = .ok (.iaload, 1) := by decide +kernel
theorem dX5_claim_36 : decode cX5_claim 36 = .ok (.istore_n 3, 1) := by decide +kernel
theorem dX5_claim_37 : decode cX5_claim 37 = .ok (.aload_n 0, 1) := by decide +kernel
theorem dX5_claim_38 : decode cX5_claim 38 = .ok (.getfield 48, 3) := by decide +kernel
theorem dX5_claim_41 : decode cX5_claim 41 = .ok (.iload_n 1, 1) := by decide +kernel
theorem dX5_claim_42 : decode cX5_claim 42 = .ok (.iload_n 2, 1) := by decide +kernel
theorem dX5_claim_43 : decode cX5_claim 43 = .ok (.iastore, 1) := by decide +kernel
theorem dX5_claim_44 : decode cX5_claim 44 = .ok (.iload_n 3, 1) := by decide +kernel
theorem dX5_claim_45 : decode cX5_claim 45 = .ok (.ireturn, 1) := by decide +kernel
set_option maxRecDepth 20000 in
theorem ggX5_differs_X5_fits : GoodIn wsX5_differs wsX5_fits := goodIn_r _ [7] (by decide +kernel) (by decide +kernel)
set_option maxRecDepth 20000 in
theorem gX5_differs_X5_fits : GoodIn wsX5_differs (va_wsS RX5 120 yX5_fits wsX5_fits) := goodIn_app (goodIn_of _ (by decide +kernel)) ggX5_differs_X5_fits
set_option maxRecDepth 20000 in
theorem ggX5_differs_X5_bookedOf : GoodIn wsX5_differs wsX5_bookedOf := goodIn_r _ [11, 12, 13, 14, 15, 16, 17, 18, 19, 20, 21, 22, 23, 24, 25, 26, 27, 28, 29, 30, 31, 32, 33, 34, 35, 36, 37, 38] (by decide +kernel) (by decide +kernel)
set_option maxRecDepth 20000 in
theorem gX5_differs_X5_bookedOf : GoodIn wsX5_differs (wsV RX5 133 RX5 yX5_bookedOf wsX5_bookedOf) := goodIn_app (goodIn_of _ (by decide +kernel)) ggX5_differs_X5_bookedOf
theorem dX5_differs_0 : decode cX5_differs 0 = .ok (.iconst 0, 1) := by decide +kernel
theorem dX5_differs_1 : decode cX5_differs 1 = .ok (.istore_n 2, 1) := by decide +kernel
theorem dX5_differs_2 : decode cX5_differs 2 = .ok (.iconst 0, 1) := by decide +kernel
theorem dX5_differs_3 : decode cX5_differs 3 = .ok (.istore_n 3, 1) := by decide +kernel
theorem dX5_differs_4 : decode cX5_differs 4 = .ok (.iload_n 3, 1) := by decide +kernel
theorem dX5_differs_5 : decode cX5_differs 5 = .ok (.aload_n 0, 1) := by decide +kernel
theorem dX5_differs_6 : decode cX5_differs 6 = .ok (.getfield 91, 3) := by decide +kernel
theorem dX5_differs_9 : decode cX5_differs 9 = .ok (.if_icmp .ge 41, 3) := by decide +kernel
theorem dX5_differs_12 : decode cX5_differs 12 = .ok (.iload_n 2, 1) := by decide +kernel
theorem dX5_differs_13 : decode cX5_differs 13 = .ok (.iload_n 1, 1) := by decide +kernel
theorem dX5_differs_14 : decode cX5_differs 14 = .ok (.aload_n 0, 1) := by decide +kernel
theorem dX5_differs_15 : decode cX5_differs 15 = .ok (.getfield 30, 3) := by decide +kernel
theorem dX5_differs_18 : decode cX5_differs 18 = .ok (.iload_n 3, 1) := by decide +kernel
theorem dX5_differs_19 : decode cX5_differs 19 = .ok (.iaload, 1) := by decide +kernel
theorem dX5_differs_20 : decode cX5_differs 20 = .ok (.invokestatic 120, 3) := by decide +kernel
theorem dX5_differs_23 : decode cX5_differs 23 = .ok (.ifCond .eq 18, 3) := by decide +kernel
theorem dX5_differs_26 : decode cX5_differs 26 = .ok (.aload_n 0, 1) := by decide +kernel
theorem dX5_differs_27 : decode cX5_differs 27 = .ok (.getfield 48, 3) := by decide +kernel
theorem dX5_differs_30 : decode cX5_differs 30 = .ok (.iload_n 3, 1) := by decide +kernel
theorem dX5_differs_31 : decode cX5_differs 31 = .ok (.iaload, 1) := by decide +kernel
theorem dX5_differs_32 : decode cX5_differs 32 = .ok (.aload_n 0, 1) := by decide +kernel
theorem dX5_differs_33 : decode cX5_differs 33 = .ok (.iload_n 3, 1) := by decide +kernel
theorem dX5_differs_34 : decode cX5_differs 34 = .ok (.invokevirtual 133, 3) := by decide +kernel
theorem dX5_differs_37 : decode cX5_differs 37 = .ok (.isub, 1) := by decide +kernel
theorem dX5_differs_38 : decode cX5_differs 38 = .ok (.goto 4, 3) := by decide +kernel
theorem dX5_differs_41 : decode cX5_differs 41 = .ok (.iconst 0, 1) := by decide +kernel
theorem dX5_differs_42 : decode cX5_differs 42 = .ok (.iadd, 1) := by decide +kernel
theorem dX5_differs_43 : decode cX5_differs 43 = .ok (.istore_n 2, 1) := by decide +kernel
theorem dX5_differs_44 : decode cX5_differs 44 = .ok (.iinc 3 1, 3) := by decide +kernel
theorem dX5_differs_47 : decode cX5_differs 47 = .ok (.goto (-43), 3) := by decide +kernel
theorem dX5_differs_50 : decode cX5_differs 50 = .ok (.iload_n 2, 1) := by decide +kernel
theorem dX5_differs_51 : decode cX5_differs 51 = .ok (.ireturn, 1) := by decide +kernel
set_option maxRecDepth 20000 in
theorem ggX5_difference_X5_isPrefix : GoodIn wsX5_difference wsX5_isPrefix := goodIn_r _ [4, 5, 6, 7, 3, 8] (by decide +kernel) (by decide +kernel)
set_option maxRecDepth 20000 in
theorem gX5_difference_X5_isPrefix : GoodIn wsX5_difference (va_wsS RX5 114 yX5_isPrefix wsX5_isPrefix) := goodIn_app (goodIn_of _ (by decide +kernel)) ggX5_difference_X5_isPrefix
set_option maxRecDepth 20000 in
theorem ggX5_difference_X5_asks : GoodIn wsX5_difference wsX5_asks := goodIn_r _ [12, 13, 29, 30, 31, 32, 33, 34, 35, 36, 37, 38, 39, 40, 41, 42, 43, 44, 45, 46, 47, 48, 49, 50, 51, 52, 53, 54] (by decide +kernel) (by decide +kernel)
set_option maxRecDepth 20000 in
theorem gX5_difference_X5_asks : GoodIn wsX5_difference (wsV RX5 87 RX5 yX5_asks wsX5_asks) := goodIn_app (goodIn_of _ (by decide +kernel)) ggX5_difference_X5_asks
set_option maxRecDepth 20000 in
theorem ggX5_difference_X5_differs : GoodIn wsX5_difference wsX5_differs := goodIn_r _ [17, 18, 19, 20, 21, 22, 3, 23, 24, 25, 26, 27, 28, 29, 30, 31, 32, 33, 34, 35, 36, 37, 38, 39, 40, 41, 42, 43, 44, 45, 46, 47, 48, 49, 50, 51, 52, 53, 54] (by decide +kernel) (by decide +kernel)
set_option maxRecDepth 20000 in
theorem gX5_difference_X5_differs : GoodIn wsX5_difference (wsV RX5 140 RX5 yX5_differs wsX5_differs) := goodIn_app (goodIn_of _ (by decide +kernel)) ggX5_difference_X5_differs
theorem dX5_difference_0 : decode cX5_difference 0 = .ok (.aload_n 0, 1) := by decide +kernel
theorem dX5_difference_1 : decode cX5_difference 1 = .ok (.iload_n 1, 1) := by decide +kernel
theorem dX5_difference_2 : decode cX5_difference 2 = .ok (.invokestatic 114, 3) := by decide +kernel
theorem dX5_difference_5 : decode cX5_difference 5 = .ok (.invokevirtual 87, 3) := by decide +kernel
theorem dX5_difference_8 : decode cX5_difference 8 = .ok (.ifCond .eq 11, 3) := by decide +kernel
theorem dX5_difference_11 : decode cX5_difference 11 = .ok (.aload_n 0, 1) := by decide +kernel
theorem dX5_difference_12 : decode cX5_difference 12 = .ok (.iload_n 1, 1) := by decide +kernel
theorem dX5_difference_13 : decode cX5_difference 13 = .ok (.invokevirtual 140, 3) := by decide +kernel
theorem dX5_difference_16 : decode cX5_difference 16 = .ok (.goto 4, 3) := by decide +kernel
theorem dX5_difference_19 : decode cX5_difference 19 = .ok (.iconst 0, 1) := by decide +kernel
theorem dX5_difference_20 : decode cX5_difference 20 = .ok (.ireturn, 1) := by decide +kernel
set_option maxRecDepth 20000 in
theorem ggX5_narrow_X5_in : GoodIn wsX5_narrow wsX5_in := goodIn_r _ [4] (by decide +kernel) (by decide +kernel)
set_option maxRecDepth 20000 in
theorem gX5_narrow_X5_in : GoodIn wsX5_narrow (va_wsS RX5 82 yX5_in wsX5_in) := goodIn_app (goodIn_of _ (by decide +kernel)) ggX5_narrow_X5_in
set_option maxRecDepth 20000 in
theorem ggX5_narrow_X5_asks : GoodIn wsX5_narrow wsX5_asks := goodIn_r _ [8, 9, 28, 29, 30, 31, 32, 33, 34, 35, 36, 37, 38, 39, 40, 41, 42, 43, 44, 45, 46, 47, 48, 49, 50, 51, 52, 53] (by decide +kernel) (by decide +kernel)
set_option maxRecDepth 20000 in
theorem gX5_narrow_X5_asks : GoodIn wsX5_narrow (wsV RX5 87 RX5 yX5_asks wsX5_asks) := goodIn_app (goodIn_of _ (by decide +kernel)) ggX5_narrow_X5_asks
set_option maxRecDepth 20000 in
theorem ggX5_narrow_X5_differs : GoodIn wsX5_narrow wsX5_differs := goodIn_r _ [13, 14, 15, 16, 17, 18, 3, 19, 20, 21, 22, 23, 24, 28, 29, 30, 31, 32, 33, 34, 35, 36, 37, 38, 39, 40, 41, 42, 43, 44, 45, 46, 47, 48, 49, 50, 51, 52, 53] (by decide +kernel) (by decide +kernel)
set_option maxRecDepth 20000 in
theorem gX5_narrow_X5_differs : GoodIn wsX5_narrow (wsV RX5 140 RX5 yX5_differs wsX5_differs) := goodIn_app (goodIn_of _ (by decide +kernel)) ggX5_narrow_X5_differs
set_option maxRecDepth 20000 in
theorem ggX5_narrow_X5_apart : GoodIn wsX5_narrow wsX5_apart := goodIn_r _ [27] (by decide +kernel) (by decide +kernel)
set_option maxRecDepth 20000 in
theorem gX5_narrow_X5_apart : GoodIn wsX5_narrow (va_wsS RX5 94 yX5_apart wsX5_apart) := goodIn_app (goodIn_of _ (by decide +kernel)) ggX5_narrow_X5_apart
theorem dX5_narrow_0 : decode cX5_narrow 0 = .ok (.aload_n 0, 1) := by decide +kernel
theorem dX5_narrow_1 : decode cX5_narrow 1 = .ok (.iload_n 1, 1) := by decide +kernel
theorem dX5_narrow_2 : decode cX5_narrow 2 = .ok (.iconst 1, 1) := by decide +kernel
theorem dX5_narrow_3 : decode cX5_narrow 3 = .ok (.iconst 5, 1) := by decide +kernel
theorem dX5_narrow_4 : decode cX5_narrow 4 = .ok (.invokestatic 82, 3) := by decide +kernel
theorem dX5_narrow_7 : decode cX5_narrow 7 = .ok (.invokevirtual 87, 3) := by decide +kernel
theorem dX5_narrow_10 : decode cX5_narrow 10 = .ok (.ifCond .ne 5, 3) := by decide +kernel
theorem dX5_narrow_13 : decode cX5_narrow 13 = .ok (.iconst 0, 1) := by decide +kernel
theorem dX5_narrow_14 : decode cX5_narrow 14 = .ok (.ireturn, 1) := by decide +kernel
theorem dX5_narrow_15 : decode cX5_narrow 15 = .ok (.iconst 0, 1) := by decide +kernel
theorem dX5_narrow_16 : decode cX5_narrow 16 = .ok (.istore_n 2, 1) := by decide +kernel
theorem dX5_narrow_17 : decode cX5_narrow 17 = .ok (.iconst 0, 1) := by decide +kernel
theorem dX5_narrow_18 : decode cX5_narrow 18 = .ok (.istore_n 3, 1) := by decide +kernel
theorem dX5_narrow_19 : decode cX5_narrow 19 = .ok (.iload_n 3, 1) := by decide +kernel
theorem dX5_narrow_20 : decode cX5_narrow 20 = .ok (.iload_n 1, 1) := by decide +kernel
theorem dX5_narrow_21 : decode cX5_narrow 21 = .ok (.if_icmp .ge 86, 3) := by decide +kernel
theorem dX5_narrow_24 : decode cX5_narrow 24 = .ok (.iconst (-1), 1) := by decide +kernel
theorem dX5_narrow_25 : decode cX5_narrow 25 = .ok (.istore 4, 2) := by decide +kernel
theorem dX5_narrow_27 : decode cX5_narrow 27 = .ok (.iload_n 3, 1) := by decide +kernel
theorem dX5_narrow_28 : decode cX5_narrow 28 = .ok (.ifCond .ne 7, 3) := by decide +kernel
theorem dX5_narrow_31 : decode cX5_narrow 31 = .ok (.iconst 1, 1) := by decide +kernel
theorem dX5_narrow_32 : decode cX5_narrow 32 = .ok (.goto 4, 3) := by decide +kernel
theorem dX5_narrow_35 : decode cX5_narrow 35 = .ok (.iconst 0, 1) := by decide +kernel
theorem dX5_narrow_36 : decode cX5_narrow 36 = .ok (.istore 5, 2) := by decide +kernel
theorem dX5_narrow_38 : decode cX5_narrow 38 = .ok (.iload 5, 2) := by decide +kernel
theorem dX5_narrow_40 : decode cX5_narrow 40 = .ok (.bipush 10, 2) := by decide +kernel
theorem dX5_narrow_42 : decode cX5_narrow 42 = .ok (.if_icmp .ge 56, 3) := by decide +kernel
theorem dX5_narrow_45 : decode cX5_narrow 45 = .ok (.bipush 10, 2) := by decide +kernel
theorem dX5_narrow_47 : decode cX5_narrow 47 = .ok (.iload_n 2, 1) := by decide +kernel
theorem dX5_narrow_48 : decode cX5_narrow 48 = .ok (.imul, 1) := by decide +kernel
theorem dX5_narrow_49 : decode cX5_narrow 49 = .ok (.iload 5, 2) := by decide +kernel
theorem dX5_narrow_51 : decode cX5_narrow 51 = .ok (.iadd, 1) := by decide +kernel
theorem dX5_narrow_52 : decode cX5_narrow 52 = .ok (.istore 6, 2) := by decide +kernel
theorem dX5_narrow_54 : decode cX5_narrow 54 = .ok (.iload 4, 2) := by decide +kernel
theorem dX5_narrow_56 : decode cX5_narrow 56 = .ok (.iconst (-1), 1) := by decide +kernel
theorem dX5_narrow_57 : decode cX5_narrow 57 = .ok (.if_icmp .eq 26, 3) := by decide +kernel
theorem dX5_narrow_60 : decode cX5_narrow 60 = .ok (.aload_n 0, 1) := by decide +kernel
theorem dX5_narrow_61 : decode cX5_narrow 61 = .ok (.iload 6, 2) := by decide +kernel
theorem dX5_narrow_63 : decode cX5_narrow 63 = .ok (.invokevirtual 140, 3) := by decide +kernel
theorem dX5_narrow_66 : decode cX5_narrow 66 = .ok (.iconst 0, 1) := by decide +kernel
theorem dX5_narrow_67 : decode cX5_narrow 67 = .ok (.invokestatic 94, 3) := by decide +kernel
theorem dX5_narrow_70 : decode cX5_narrow 70 = .ok (.aload_n 0, 1) := by decide +kernel
theorem dX5_narrow_71 : decode cX5_narrow 71 = .ok (.iload 4, 2) := by decide +kernel
theorem dX5_narrow_73 : decode cX5_narrow 73 = .ok (.invokevirtual 140, 3) := by decide +kernel
theorem dX5_narrow_76 : decode cX5_narrow 76 = .ok (.iconst 0, 1) := by decide +kernel
theorem dX5_narrow_77 : decode cX5_narrow 77 = .ok (.invokestatic 94, 3) := by decide +kernel
theorem dX5_narrow_80 : decode cX5_narrow 80 = .ok (.if_icmp .le 8, 3) := by decide +kernel
theorem dX5_narrow_83 : decode cX5_narrow 83 = .ok (.iload 6, 2) := by decide +kernel
theorem dX5_narrow_85 : decode cX5_narrow 85 = .ok (.goto 5, 3) := by decide +kernel
theorem dX5_narrow_88 : decode cX5_narrow 88 = .ok (.iload 4, 2) := by decide +kernel
theorem dX5_narrow_90 : decode cX5_narrow 90 = .ok (.istore 4, 2) := by decide +kernel
theorem dX5_narrow_92 : decode cX5_narrow 92 = .ok (.iinc 5 1, 3) := by decide +kernel
theorem dX5_narrow_95 : decode cX5_narrow 95 = .ok (.goto (-57), 3) := by decide +kernel
theorem dX5_narrow_98 : decode cX5_narrow 98 = .ok (.iload 4, 2) := by decide +kernel
theorem dX5_narrow_100 : decode cX5_narrow 100 = .ok (.istore_n 2, 1) := by decide +kernel
theorem dX5_narrow_101 : decode cX5_narrow 101 = .ok (.iinc 3 1, 3) := by decide +kernel
theorem dX5_narrow_104 : decode cX5_narrow 104 = .ok (.goto (-85), 3) := by decide +kernel
theorem dX5_narrow_107 : decode cX5_narrow 107 = .ok (.iload_n 2, 1) := by decide +kernel
theorem dX5_narrow_108 : decode cX5_narrow 108 = .ok (.ireturn, 1) := by decide +kernel
set_option maxRecDepth 20000 in
theorem ggX5_worst_X5_bookedOf : GoodIn wsX5_worst wsX5_bookedOf := goodIn_r _ [7, 8, 17, 18, 19, 20, 21, 22, 23, 24, 25, 26, 27, 28, 29, 30, 31, 32, 33, 34, 35, 36, 37, 38, 39, 40, 41, 42] (by decide +kernel) (by decide +kernel)
set_option maxRecDepth 20000 in
theorem gX5_worst_X5_bookedOf : GoodIn wsX5_worst (wsV RX5 133 RX5 yX5_bookedOf wsX5_bookedOf) := goodIn_app (goodIn_of _ (by decide +kernel)) ggX5_worst_X5_bookedOf
set_option maxRecDepth 20000 in
theorem ggX5_worst_X5_apart : GoodIn wsX5_worst wsX5_apart := goodIn_r _ [11] (by decide +kernel) (by decide +kernel)
set_option maxRecDepth 20000 in
theorem gX5_worst_X5_apart : GoodIn wsX5_worst (va_wsS RX5 94 yX5_apart wsX5_apart) := goodIn_app (goodIn_of _ (by decide +kernel)) ggX5_worst_X5_apart
set_option maxRecDepth 20000 in
theorem ggX5_worst_X5_asks : GoodIn wsX5_worst wsX5_asks := goodIn_r _ [15, 16, 17, 18, 19, 20, 21, 22, 23, 24, 25, 26, 27, 28, 29, 30, 31, 32, 33, 34, 35, 36, 37, 38, 39, 40, 41, 42] (by decide +kernel) (by decide +kernel)
set_option maxRecDepth 20000 in
theorem gX5_worst_X5_asks : GoodIn wsX5_worst (wsV RX5 87 RX5 yX5_asks wsX5_asks) := goodIn_app (goodIn_of _ (by decide +kernel)) ggX5_worst_X5_asks
theorem dX5_worst_0 : decode cX5_worst 0 = .ok (.iconst 0, 1) := by decide +kernel
theorem dX5_worst_1 : decode cX5_worst 1 = .ok (.istore_n 1, 1) := by decide +kernel
theorem dX5_worst_2 : decode cX5_worst 2 = .ok (.iconst 1, 1) := by decide +kernel
theorem dX5_worst_3 : decode cX5_worst 3 = .ok (.istore_n 2, 1) := by decide +kernel
theorem dX5_worst_4 : decode cX5_worst 4 = .ok (.iload_n 2, 1) := by decide +kernel
theorem dX5_worst_5 : decode cX5_worst 5 = .ok (.aload_n 0, 1) := by decide +kernel
theorem dX5_worst_6 : decode cX5_worst 6 = .ok (.getfield 91, 3) := by decide +kernel
theorem dX5_worst_9 : decode cX5_worst 9 = .ok (.if_icmp .ge 46, 3) := by decide +kernel
theorem dX5_worst_12 : decode cX5_worst 12 = .ok (.aload_n 0, 1) := by decide +kernel
theorem dX5_worst_13 : decode cX5_worst 13 = .ok (.getfield 48, 3) := by decide +kernel
theorem dX5_worst_16 : decode cX5_worst 16 = .ok (.iload_n 2, 1) := by decide +kernel
theorem dX5_worst_17 : decode cX5_worst 17 = .ok (.iaload, 1) := by decide +kernel
theorem dX5_worst_18 : decode cX5_worst 18 = .ok (.aload_n 0, 1) := by decide +kernel
theorem dX5_worst_19 : decode cX5_worst 19 = .ok (.iload_n 2, 1) := by decide +kernel
theorem dX5_worst_20 : decode cX5_worst 20 = .ok (.invokevirtual 133, 3) := by decide +kernel
theorem dX5_worst_23 : decode cX5_worst 23 = .ok (.invokestatic 94, 3) := by decide +kernel
theorem dX5_worst_26 : decode cX5_worst 26 = .ok (.aload_n 0, 1) := by decide +kernel
theorem dX5_worst_27 : decode cX5_worst 27 = .ok (.getfield 48, 3) := by decide +kernel
theorem dX5_worst_30 : decode cX5_worst 30 = .ok (.iload_n 1, 1) := by decide +kernel
theorem dX5_worst_31 : decode cX5_worst 31 = .ok (.iaload, 1) := by decide +kernel
theorem dX5_worst_32 : decode cX5_worst 32 = .ok (.aload_n 0, 1) := by decide +kernel
theorem dX5_worst_33 : decode cX5_worst 33 = .ok (.iload_n 1, 1) := by decide +kernel
theorem dX5_worst_34 : decode cX5_worst 34 = .ok (.invokevirtual 133, 3) := by decide +kernel
theorem dX5_worst_37 : decode cX5_worst 37 = .ok (.invokestatic 94, 3) := by decide +kernel
theorem dX5_worst_40 : decode cX5_worst 40 = .ok (.if_icmp .le 7, 3) := by decide +kernel
theorem dX5_worst_43 : decode cX5_worst 43 = .ok (.iload_n 2, 1) := by decide +kernel
theorem dX5_worst_44 : decode cX5_worst 44 = .ok (.goto 4, 3) := by decide +kernel
theorem dX5_worst_47 : decode cX5_worst 47 = .ok (.iload_n 1, 1) := by decide +kernel
theorem dX5_worst_48 : decode cX5_worst 48 = .ok (.istore_n 1, 1) := by decide +kernel
theorem dX5_worst_49 : decode cX5_worst 49 = .ok (.iinc 2 1, 3) := by decide +kernel
theorem dX5_worst_52 : decode cX5_worst 52 = .ok (.goto (-48), 3) := by decide +kernel
theorem dX5_worst_55 : decode cX5_worst 55 = .ok (.aload_n 0, 1) := by decide +kernel
theorem dX5_worst_56 : decode cX5_worst 56 = .ok (.aload_n 0, 1) := by decide +kernel
theorem dX5_worst_57 : decode cX5_worst 57 = .ok (.getfield 91, 3) := by decide +kernel
theorem dX5_worst_60 : decode cX5_worst 60 = .ok (.ifCond .le 7, 3) := by decide +kernel
theorem dX5_worst_63 : decode cX5_worst 63 = .ok (.iconst 1, 1) := by decide +kernel
theorem dX5_worst_64 : decode cX5_worst 64 = .ok (.goto 4, 3) := by decide +kernel
theorem dX5_worst_67 : decode cX5_worst 67 = .ok (.iconst 0, 1) := by decide +kernel
theorem dX5_worst_68 : decode cX5_worst 68 = .ok (.invokevirtual 87, 3) := by decide +kernel
theorem dX5_worst_71 : decode cX5_worst 71 = .ok (.ifCond .eq 7, 3) := by decide +kernel
theorem dX5_worst_74 : decode cX5_worst 74 = .ok (.iload_n 1, 1) := by decide +kernel
theorem dX5_worst_75 : decode cX5_worst 75 = .ok (.goto 4, 3) := by decide +kernel
theorem dX5_worst_78 : decode cX5_worst 78 = .ok (.iconst 0, 1) := by decide +kernel
theorem dX5_worst_79 : decode cX5_worst 79 = .ok (.ireturn, 1) := by decide +kernel
theorem dJ9_abs_0f7a4_0 : decode cJ9_abs_0f7a4 0 = .ok (.iload_n 0, 1) := by decide +kernel
theorem dJ9_abs_0f7a4_1 : decode cJ9_abs_0f7a4 1 = .ok (.ifCond .ge 8, 3) := by decide +kernel
theorem dJ9_abs_0f7a4_4 : decode cJ9_abs_0f7a4 4 = .ok (.iload_n 0, 1) := by decide +kernel
theorem dJ9_abs_0f7a4_5 : decode cJ9_abs_0f7a4 5 = .ok (.ineg, 1) := by decide +kernel
theorem dJ9_abs_0f7a4_6 : decode cJ9_abs_0f7a4 6 = .ok (.goto 4, 3) := by decide +kernel
theorem dJ9_abs_0f7a4_9 : decode cJ9_abs_0f7a4 9 = .ok (.iload_n 0, 1) := by decide +kernel
theorem dJ9_abs_0f7a4_10 : decode cJ9_abs_0f7a4 10 = .ok (.ireturn, 1) := by decide +kernel
theorem dJ9_max_7cf53_0 : decode cJ9_max_7cf53 0 = .ok (.iload_n 0, 1) := by decide +kernel
theorem dJ9_max_7cf53_1 : decode cJ9_max_7cf53 1 = .ok (.iload_n 1, 1) := by decide +kernel
theorem dJ9_max_7cf53_2 : decode cJ9_max_7cf53 2 = .ok (.if_icmp .lt 7, 3) := by decide +kernel
theorem dJ9_max_7cf53_5 : decode cJ9_max_7cf53 5 = .ok (.iload_n 0, 1) := by decide +kernel
theorem dJ9_max_7cf53_6 : decode cJ9_max_7cf53 6 = .ok (.goto 4, 3) := by decide +kernel
theorem dJ9_max_7cf53_9 : decode cJ9_max_7cf53 9 = .ok (.iload_n 1, 1) := by decide +kernel
theorem dJ9_max_7cf53_10 : decode cJ9_max_7cf53 10 = .ok (.ireturn, 1) := by decide +kernel
theorem dJ9_min_7cf53_0 : decode cJ9_min_7cf53 0 = .ok (.iload_n 0, 1) := by decide +kernel
theorem dJ9_min_7cf53_1 : decode cJ9_min_7cf53 1 = .ok (.iload_n 1, 1) := by decide +kernel
theorem dJ9_min_7cf53_2 : decode cJ9_min_7cf53 2 = .ok (.if_icmp .gt 7, 3) := by decide +kernel
theorem dJ9_min_7cf53_5 : decode cJ9_min_7cf53 5 = .ok (.iload_n 0, 1) := by decide +kernel
theorem dJ9_min_7cf53_6 : decode cJ9_min_7cf53 6 = .ok (.goto 4, 3) := by decide +kernel
theorem dJ9_min_7cf53_9 : decode cJ9_min_7cf53 9 = .ok (.iload_n 1, 1) := by decide +kernel
theorem dJ9_min_7cf53_10 : decode cJ9_min_7cf53 10 = .ok (.ireturn, 1) := by decide +kernel
set_option maxRecDepth 20000 in
theorem ggL_setBound_X4_setBound : GoodIn wsL_setBound wsX4_setBound := goodIn_ca (goodIn_r _ [6, 7, 8, 9, 10, 11, 5, 12, 13, 14, 15, 16, 17, 18, 19, 20] (by decide +kernel) (by decide +kernel)) (goodIn_sub (fun _ h => List.mem_cons_of_mem _ (List.mem_append_right _ h)) (by decide +kernel))
set_option maxRecDepth 20000 in
theorem gL_setBound_X4_setBound : GoodIn wsL_setBound (wsV RL 7 RX4 yX4_setBound wsX4_setBound) := goodIn_app (goodIn_of _ (by decide +kernel)) ggL_setBound_X4_setBound
end
section
abbrev vwCl : List vw_C := [(RX0, TX0, 8), (RX1, TX1, 2), (RX2, TX2, 7), (RX3, TX3, 5), (RX4, TX4, 8), (RX5, TX5, 26)]
-- ===== the premises that every method needs beside its own words: tables, texts, statics =====
abbrev ck_G : Type := va_G × (Nat → ClassId) × (Nat → Nat) × Nat
def ck_A (G : ck_G) : Nat → Prop := fun q => G.2.2.2 ≤ q
abbrev ck_tys (G : ck_G) : List (ClassId × FieldType) := [(G.2.1 0, .int), (G.2.1 1, .long), (G.2.1 2, .object RX0), (G.2.1 3, .object RX1), (G.2.1 4, .object RX2), (G.2.1 5, .object RX3)]
def ck_strs : List (Nat × String) := [(45, "the bound is out of range"), (59, "a parameter of the record is out of range"), (77, "there are 60 calls"), (91, "no such switch"), (106, "no such call"), (121, "a parameter of the rate is out of range"), (126, "30 rates were added"), (131, "the number or the day is out of range"), (139, "no rate for the number on the day"), (147, "no rate for the call"), (156, "the call is not booked"), (164, "the prefix is out of range"), (180, "a parameter of the offer is out of range"), (185, "the carrier offers 10 prices"), (191, "the carrier or the number is out of range"), (197, "the carrier has no offer for the number"), (199, "a parameter of the route is out of range"), (208, "no such carrier"), (211, "the amount is out of range"), (219, "the number of digits is out of range"), (232, "there are no calls")]
def ck_IAE : String := "java/lang/IllegalArgumentException"
def ck_ISE : String := "java/lang/IllegalStateException"
def ck_IOB : String := "java/lang/IndexOutOfBoundsException"
def ck_NSE : String := "java/util/NoSuchElementException"
def ck_exc : List String := [ck_IAE, ck_ISE, ck_IOB, ck_NSE]
def ck_nc : List (String × String) := [(ck_ISE, ck_IAE), (ck_NSE, ck_IAE), (ck_NSE, ck_IOB), (ck_IAE, ck_IOB)]
def ck_ao : List String := [RX0, RX1, RX2, RX3]
def ck_T (G : ck_G) (U : State) : Prop := va_K G.1 vwCl (ck_tys G) U ∧ (∀ q ∈ ck_strs, vk_R RX4 q.1 q.2 (G.2.2.1 q.1) U) ∧ (va_Nw (.methodLinkNest RX4 37 yX3_init RX4) U ∧ va_Nw (.methodLinkNest RX4 38 yX1_init RX4) U ∧ va_Nw (.methodLinkNest RX1 22 yX4_fits RX4) U) ∧ (∀ E ∈ ck_exc, va_Nw (.castable E E) U) ∧ (∀ q ∈ ck_nc, va_Nc q.1 q.2 U) ∧ ∀ C ∈ ck_ao, va_AO C U
def ck_Z (G : ck_G) (U : State) (H : Heap) : Prop := vx_Zq Bundle.tN "UNASSIGNED_STACK" Bundle.steD (ck_A G) U H ∧ vx_Zq Bundle.tN "SUPPRESSED_SENTINEL" Bundle.listD (ck_A G) U H
def ck_K (G : ck_G) (H : Heap) (U : State) : Prop := ck_T G U ∧ ck_Z G U H
theorem ck_T.warm {G : ck_G} {s U : State} (hW : s.WarmedH U.vm) (h : ck_T G s) : ck_T G U :=
  ⟨va_K.moved hW.alike h.1, fun q hq => vk_R.warm hW (h.2.1 q hq), ⟨va_Nw.warmM hW h.2.2.1.1, va_Nw.warmM hW h.2.2.1.2.1, va_Nw.warmM hW h.2.2.1.2.2⟩, fun E hE => va_Nw.warmC hW (h.2.2.2.1 E hE), fun q hq => va_Nc.moved hW.alike (h.2.2.2.2.1 q hq), fun C hC => va_AO.moved hW.alike (h.2.2.2.2.2 C hC)⟩
theorem ck_T.same {G : ck_G} {u U : State} (hv : U.vm = u.vm) (h : ck_T G u) : ck_T G U := by
  have hA : u.vm.Alike U.vm := by rw [hv]; exact Vm.Alike.refl u.vm
  exact ⟨va_K.moved hA h.1, fun q hq => vk_R.same hv (h.2.1 q hq), ⟨va_Nw.same rfl hv.symm h.2.2.1.1, va_Nw.same rfl hv.symm h.2.2.1.2.1, va_Nw.same rfl hv.symm h.2.2.1.2.2⟩, fun E hE => va_Nw.same rfl hv.symm (h.2.2.2.1 E hE), fun q hq => va_Nc.moved hA (h.2.2.2.2.1 q hq), fun C hC => va_AO.moved hA (h.2.2.2.2.2 C hC)⟩
theorem ck_K.warm {G : ck_G} {H : Heap} {s U : State} (hW : s.WarmedH U.vm) (h : ck_K G H s) : ck_K G H U := ⟨h.1.warm hW, vx_Zq.moved hW.alike h.2.1, vx_Zq.moved hW.alike h.2.2⟩
theorem ck_K.same {G : ck_G} {H : Heap} {u U : State} (hv : U.vm = u.vm) (h : ck_K G H u) : ck_K G H U := by
  have hA : u.vm.Alike U.vm := by rw [hv]; exact Vm.Alike.refl u.vm
  exact ⟨h.1.same hv, vx_Zq.moved hA h.2.1, vx_Zq.moved hA h.2.2⟩
theorem ck_K.keep {G : ck_G} {H H1 : Heap} {s : State} (h : ck_K G H s) (hq : ∀ a : Nat, a < H.size → ¬ ck_A G a → H1[a]? = H[a]?) : ck_K G H1 s := ⟨h.1, h.2.1.kept hq, h.2.2.kept hq⟩
/-- a method's start: these arguments, this heap -/
def ck_P (G : ck_G) (H : Heap) (av : List Value) : Array Value → State → Prop := va_Pc av (fun U => U.heap = H ∧ ck_K G H U)
theorem ck_blind {G : ck_G} {H : Heap} {av : List Value} : FrameBlind (ck_P G H av) := fun _ _ _ _ q => ⟨q.1, q.2.1, ck_K.same rfl q.2.2⟩
theorem ck_pre {G : ck_G} {H : Heap} {av : List Value} {s : State} (h : ck_K G H s) : ∀ U : State, U.heap = H → s.WarmedH U.vm → ck_P G H av av.toArray U := fun _ hU hW => ⟨rfl, hU, ck_K.warm hW h⟩
-- ===== the world: cell number i lies at ad i and holds F i, for every i that is alive =====
def ck_W (G : ck_G) (ad : Nat → Nat) (N : Nat → Prop) (F : Nat → va_E) (H : Heap) : Prop := (∀ i, N i → va_at G.1 vwCl (ad i, F i) H ∧ ck_A G (ad i)) ∧ ∀ i j, N i → N j → ad i = ad j → i = j
theorem ck_W.at {G : ck_G} {ad : Nat → Nat} {N : Nat → Prop} {F : Nat → va_E} {H : Heap} (h : ck_W G ad N F H) {i : Nat} (hi : N i) {e : va_E} (hF : F i = e) : va_at G.1 vwCl (ad i, e) H := by rw [← hF]; exact (h.1 i hi).1
theorem ck_one {D : va_G} {q : Nat × va_E} {H : Heap} (h : va_at D vwCl q H) : va_P D vwCl [q] H := fun k r hk => by
  cases k with
  | zero => cases hk; exact h
  | succ k => simp at hk
theorem ck_W.put {G : ck_G} {ad : Nat → Nat} {N : Nat → Prop} {F : Nat → va_E} {H H1 : Heap} (h : ck_W G ad N F H) {i : Nat} (hi : N i) {e : va_E} (he : va_at G.1 vwCl (ad i, e) H1) (oq : ∀ q : Nat, q ≠ ad i → H1[q]? = H[q]?) : ck_W G ad N (va_up F i e) H1 := by
  refine ⟨fun j hj => ⟨?_, (h.1 j hj).2⟩, h.2⟩
  by_cases e1 : j = i
  · subst e1; rw [va_up_self]; exact he
  · rw [va_up_ne _ _ e1]; exact (h.1 j hj).1.kept (oq _ (fun z => e1 (h.2 j i hj hi z)))
theorem ck_W.kept {G : ck_G} {ad : Nat → Nat} {N : Nat → Prop} {F : Nat → va_E} {H H1 : Heap} (h : ck_W G ad N F H) (oq : ∀ q : Nat, q < H.size → H1[q]? = H[q]?) : ck_W G ad N F H1 := ⟨fun j hj => ⟨(h.1 j hj).1.kept (oq _ (h.1 j hj).1.lt), (h.1 j hj).2⟩, h.2⟩
theorem ck_recv {G : ck_G} {ad : Nat → Nat} {N : Nat → Prop} {F : Nat → va_E} {H : Heap} {s : State} (hK : va_K G.1 vwCl (ck_tys G) s) (h : ck_W G ad N F H) {i : Nat} (hi : N i) {ci : Nat} {fs : List Value} (hF : F i = .inr (ci, fs)) {q : vw_C} (hc : vwCl[ci]? = some q) : ∃ cell : Cell, H[ad i]? = some cell ∧ cell.vm.isStatics = false ∧ s.vm.findClass q.1 = some cell.cls := va_recv hK (ck_one (h.at hi hF)) hc (q0 := 0) rfl
section CKR
variable {p : Program} {l : Launch} {e : Env} {R : Room} {s : State} {m : MethodId} {args : Array Value} {below : List Frame} {meth : Method} {c : Code} {H : Heap} {locs : List Loc} {cells slots : Nat} {Q : State → Prop}
variable {cc : ByteArray} {pc : Nat} {ls : Array Slot} {rest : List Value} {G : ck_G} {ad : Nat → Nat} {N : Nat → Prop} {F : Nat → va_E} {H0 : Heap} {A : Nat → Prop}
theorem ck_get (hexec : p.tables.exec = Jvm.exec) (hb : c.code = cc) {own C : String} {T : u_T} {NN ci index : Nat} {Ts : List Cond} (hts : ∀ w ∈ Ts, w.before args s = true) (hin : ∀ w ∈ u_ws C T NN, w ∈ Ts) (hown : s.vm.findClass own = some m.cls) (hK : va_K G.1 vwCl (ck_tys G) s) (hW : ck_W G ad N F H) {i : Nat} (hi : N i) {fs : List Value} (hF : F i = .inr (ci, fs)) (hc : vwCl[ci]? = some (C, T, NN)) (k : Nat) (hk : k < NN) (hlink : (Cond.fieldLink own index C (T k).2.1 (T k).2.2.1).before args s = true) (hsame : (T k).1 = C) {v : Value} (hv : fs[k]? = some v) (hdg : decode cc pc = .ok (.getfield index, 3))
    (kk : W p l e R s m args below meth c H locs cells slots Q (F0 m (pc + 3) ls (v :: rest))) : W p l e R s m args below meth c H locs cells slots Q (F0 m pc ls (.ref (ad i) :: rest)) :=
  va_get hexec hb hts hin hown hK (ck_one (hW.at hi hF)) 0 rfl hc k hk hlink (fun x h => by rw [hsame] at h; exact h) hv hdg kk
theorem ck_put (hexec : p.tables.exec = Jvm.exec) (hb : c.code = cc) {own C : String} {T : u_T} {NN ci index : Nat} {Ts : List Cond} (hts : ∀ w ∈ Ts, w.before args s = true) (hin : ∀ w ∈ u_ws C T NN, w ∈ Ts) (ty0 : Nat → FieldType) (hty : ∀ k, k < NN → parseFieldDescriptor (T k).2.2.1 = some (ty0 k)) (hnm : ∀ a, a < NN → ∀ b, b < NN → a ≠ b → (T a).2.1 ≠ (T b).2.1) (hown : s.vm.findClass own = some m.cls) (hK : va_K G.1 vwCl (ck_tys G) s) (hW : ck_W G ad N F H) (hS0 : va_S (ck_A G) H0 H locs) {i : Nat} (hi : N i) {fs : List Value} (hF : F i = .inr (ci, fs)) (hc : vwCl[ci]? = some (C, T, NN)) (k : Nat) (hk : k < NN) (hlink : (Cond.fieldLink own index C (T k).2.1 (T k).2.2.1).before args s = true) (hsame : (T k).1 = C) (hfin : (T k).2.2.2 = false) {ty : FieldType} {v : Value} (hd : parseFieldDescriptor (T k).2.2.1 = some ty) (hn : narrow ty v = v) (hfit : fits ty v = true) (hl : k < fs.length)
    (hdg : decode cc pc = .ok (.putfield index, 3)) (kk : ∀ (H1 : Heap) (locs1 : List Loc), ck_W G ad N (va_up F i (.inr (ci, fs.set k v))) H1 → va_S (ck_A G) H0 H1 locs1 → H1.size = H.size → W p l e R s m args below meth c H1 locs1 cells slots Q (F0 m (pc + 3) ls rest)) : W p l e R s m args below meth c H locs cells slots Q (F0 m pc ls (v :: .ref (ad i) :: rest)) := by
  have hap := va_apart (own := own) hts hin ty0 hty hnm hK hc
  obtain ⟨r, h1, cell, q1, q2, q3, q4⟩ := hW.at hi hF
  have hr : r = (C, T, NN) := Option.some.inj (h1.symm.trans hc)
  subst hr
  obtain ⟨hS, hfc, kC, hkC, hkind⟩ := hK.1 ci _ hc
  obtain ⟨cf, kf, fi, f, hi2, hsl⟩ := hS k hk
  have hlay := hts _ (hin _ (u_in_lay hk))
  unfold u_lay at hlay
  rw [if_neg (by rw [hfin]; decide)] at hlay
  have hst := (u_facts hfc hkC (u_lays hts hin hk) hi2).1
  have h6 := u_store hfc hkC hkind hlay hi2 hd hn hfit
  refine W.putK hexec hb (f := f) ⟨hown, hlink, ⟨_, _, _, by rw [hsame] at hi2; exact hi2⟩, hst⟩ (by rw [q2]; exact h6) q1 q3 (by rw [hsl]; exact k2_hasslot (q4 k hk)) rfl rfl hdg fun H' e1 e2 e3 => ?_
  rw [hsl] at e1 ⊢
  exact kk H' _ (hW.put hi ⟨_, hc, t_OB.to (V := updV (vp_V fs) k v) ⟨_, e1, q2, q3, t_set q4 hap hk v⟩ (fun j _ => vp_updV_set hl v j)⟩ e3) (hS0.put e2 e3 (hW.1 i hi).2) e2
theorem ck_alen (hexec : p.tables.exec = Jvm.exec) (hb : c.code = cc) (hK : va_K G.1 vwCl (ck_tys G) s) (hW : ck_W G ad N F H) {i : Nat} (hi : N i) {cA : ClassId} {x : vp_A} (hF : F i = .inl (cA, x)) (t0 : Nat) {ty : FieldType} (ht : (ck_tys G)[t0]? = some (cA, ty)) {v : Int32} (hv : Int32.ofNat x.1 = v) (hdg : decode cc pc = .ok (.arraylength, 1))
    (kk : W p l e R s m args below meth c H locs cells slots Q (F0 m (pc + 1) ls (.int v :: rest))) : W p l e R s m args below meth c H locs cells slots Q (F0 m pc ls (.ref (ad i) :: rest)) := va_alen hexec hb hK (ck_one (hW.at hi hF)) 0 t0 rfl ht hv hdg kk
theorem ck_in {i : Int32} {j n : Nat} (hj : i = nI j) (hlt : j < n) (hn : n < 2 ^ 31) : vp_in i n ∧ i.toNatClampNeg = j := by
  subst hj
  exact ⟨vp_in_nI hlt hn, nI_clamp (by omega)⟩
theorem ck_iald (hexec : p.tables.exec = Jvm.exec) (hb : c.code = cc) (hK : va_K G.1 vwCl (ck_tys G) s) (hW : ck_W G ad N F H) {i : Nat} (hi : N i) {n : Nat} {f : Nat → Int32} (hF : F i = .inl (G.2.1 0, n, .inl f)) {x : Int32} (j : Nat) (hj : x = nI j) (hlt : j < n) (hn : n < 2 ^ 31) (hdg : decode cc pc = .ok (.iaload, 1))
    (kk : W p l e R s m args below meth c H locs cells slots Q (F0 m (pc + 1) ls (.int (f j) :: rest))) : W p l e R s m args below meth c H locs cells slots Q (F0 m pc ls (.int x :: .ref (ad i) :: rest)) := by
  obtain ⟨h1, h2⟩ := ck_in hj hlt hn
  refine va_iald hexec hb hK (ck_one (hW.at hi hF)) 0 0 rfl rfl h1 hdg ?_
  rw [h2]; exact kk
theorem ck_lald (hexec : p.tables.exec = Jvm.exec) (hb : c.code = cc) (hK : va_K G.1 vwCl (ck_tys G) s) (hW : ck_W G ad N F H) {i : Nat} (hi : N i) {n : Nat} {f : Nat → Int64} (hF : F i = .inl (G.2.1 1, n, .inr (.inl f))) {x : Int32} (j : Nat) (hj : x = nI j) (hlt : j < n) (hn : n < 2 ^ 31) (hdg : decode cc pc = .ok (.laload, 1))
    (kk : W p l e R s m args below meth c H locs cells slots Q (F0 m (pc + 1) ls (.long (f j) :: rest))) : W p l e R s m args below meth c H locs cells slots Q (F0 m pc ls (.int x :: .ref (ad i) :: rest)) := by
  obtain ⟨h1, h2⟩ := ck_in hj hlt hn
  refine va_lald hexec hb hK (ck_one (hW.at hi hF)) 0 1 rfl rfl h1 hdg ?_
  rw [h2]; exact kk
/-- a row of references: what lies at place j, by its value r (none: null) -/
theorem ck_aald (hexec : p.tables.exec = Jvm.exec) (hb : c.code = cc) (hK : va_K G.1 vwCl (ck_tys G) s) (hW : ck_W G ad N F H) {i : Nat} (hi : N i) {cA : ClassId} {n : Nat} {f : Nat → Option Nat} (hF : F i = .inl (cA, n, .inr (.inr (.inr (.inr f))))) (t0 : Nat) {C : String} (ht : (ck_tys G)[t0]? = some (cA, .object C)) {x : Int32} (j : Nat) (hj : x = nI j) (hlt : j < n) (hn : n < 2 ^ 31) {r : Option Nat} (hr : f j = r) (hdg : decode cc pc = .ok (.aaload, 1))
    (kk : W p l e R s m args below meth c H locs cells slots Q (F0 m (pc + 1) ls (va_rf r :: rest))) : W p l e R s m args below meth c H locs cells slots Q (F0 m pc ls (.int x :: .ref (ad i) :: rest)) := by
  obtain ⟨h1, h2⟩ := ck_in hj hlt hn
  refine va_aldq hexec hb hK (ck_one (hW.at hi hF)) 0 t0 rfl ht h1 hdg ?_
  rw [h2, hr]; exact kk
theorem ck_iast (hexec : p.tables.exec = Jvm.exec) (hb : c.code = cc) (hK : va_K G.1 vwCl (ck_tys G) s) (hW : ck_W G ad N F H) (hS0 : va_S (ck_A G) H0 H locs) {i : Nat} (hi : N i) {n : Nat} {f : Nat → Int32} (hF : F i = .inl (G.2.1 0, n, .inl f)) {x y : Int32} (j : Nat) (hj : x = nI j) (hlt : j < n) (hn : n < 2 ^ 31) (hdg : decode cc pc = .ok (.iastore, 1))
    (kk : ∀ (H1 : Heap) (locs1 : List Loc), ck_W G ad N (va_up F i (.inl (G.2.1 0, n, .inl (upd f j y)))) H1 → va_S (ck_A G) H0 H1 locs1 → H1.size = H.size → W p l e R s m args below meth c H1 locs1 cells slots Q (F0 m (pc + 1) ls rest)) : W p l e R s m args below meth c H locs cells slots Q (F0 m pc ls (.int y :: .int x :: .ref (ad i) :: rest)) := by
  obtain ⟨h1, h2⟩ := ck_in hj hlt hn
  refine W.iast hexec hb (hW.at hi hF) ((hK.2 0 _ rfl).1 n (fun j => .int (f j))) (fun q => by cases q) (by show ¬ (x < 0 ∨ (arrV _ _ _).slots.size ≤ _); rw [arrV_size]; exact h1) rfl rfl hdg fun H1 e z oq => ?_
  refine kk H1 _ (hW.put hi ?_ oq) (hS0.put z oq (hW.1 i hi).2) z
  show H1[ad i]? = some (vp_cell _ _)
  rw [e, h2]
  rw [vp_cell_i, vp_cell_i, arrV_store]
  congr 2
  funext q
  by_cases hq : q = j
  · subst hq
    simp [updV, upd]
  · simp [updV, upd, hq]
theorem ck_last (hexec : p.tables.exec = Jvm.exec) (hb : c.code = cc) (hK : va_K G.1 vwCl (ck_tys G) s) (hW : ck_W G ad N F H) (hS0 : va_S (ck_A G) H0 H locs) {i : Nat} (hi : N i) {n : Nat} {f : Nat → Int64} (hF : F i = .inl (G.2.1 1, n, .inr (.inl f))) {x : Int32} {y : Int64} (j : Nat) (hj : x = nI j) (hlt : j < n) (hn : n < 2 ^ 31) (hdg : decode cc pc = .ok (.lastore, 1))
    (kk : ∀ (H1 : Heap) (locs1 : List Loc), ck_W G ad N (va_up F i (.inl (G.2.1 1, n, .inr (.inl (vp_updL f j y))))) H1 → va_S (ck_A G) H0 H1 locs1 → H1.size = H.size → W p l e R s m args below meth c H1 locs1 cells slots Q (F0 m (pc + 1) ls rest)) : W p l e R s m args below meth c H locs cells slots Q (F0 m pc ls (.long y :: .int x :: .ref (ad i) :: rest)) := by
  obtain ⟨h1, h2⟩ := ck_in hj hlt hn
  refine W.last hexec hb (hW.at hi hF) ((hK.2 1 _ rfl).1 n (fun j => .long (f j))) (fun q => by cases q) (by show ¬ (x < 0 ∨ (arrV _ _ _).slots.size ≤ _); rw [arrV_size]; exact h1) rfl rfl hdg fun H1 e z oq => ?_
  refine kk H1 _ (hW.put hi ?_ oq) (hS0.put z oq (hW.1 i hi).2) z
  show H1[ad i]? = some (vp_cell _ _)
  rw [e, h2]
  rw [vp_cell_l, vp_cell_l, arrV_store]
  congr 2
  funext q
  by_cases hq : q = j
  · subst hq
    simp [updV, vp_updL]
  · simp [updV, vp_updL, hq]
theorem ck_aast (hexec : p.tables.exec = Jvm.exec) (hb : c.code = cc) (hK : va_K G.1 vwCl (ck_tys G) s) (hW : ck_W G ad N F H) (hS0 : va_S (ck_A G) H0 H locs) {i : Nat} (hi : N i) {cA : ClassId} {n : Nat} {f : Nat → Option Nat} (hF : F i = .inl (cA, n, .inr (.inr (.inr (.inr f))))) (t0 : Nat) {r : vw_C} (ht : (ck_tys G)[t0]? = some (cA, .object r.1)) {x : Int32} (j : Nat) (hj : x = nI j) (hlt : j < n) (hn : n < 2 ^ 31) {k ci : Nat} {vs : List Value} (hk : N k) (hFk : F k = .inr (ci, vs)) (hc : vwCl[ci]? = some r) (hdg : decode cc pc = .ok (.aastore, 1))
    (kk : ∀ (H1 : Heap) (locs1 : List Loc), ck_W G ad N (va_up F i (.inl (cA, n, .inr (.inr (.inr (.inr (va_up f j (some (ad k)))))))) ) H1 → va_S (ck_A G) H0 H1 locs1 → H1.size = H.size → W p l e R s m args below meth c H1 locs1 cells slots Q (F0 m (pc + 1) ls rest)) : W p l e R s m args below meth c H locs cells slots Q (F0 m pc ls (.ref (ad k) :: .int x :: .ref (ad i) :: rest)) := by
  obtain ⟨h1, h2⟩ := ck_in hj hlt hn
  have h0 : ¬ x < 0 := fun q => h1 (Or.inl q)
  have hlt2 : x.toNatClampNeg < n := by rw [h2]; exact hlt
  obtain ⟨r', hr', cellV, g1, g2, g3, -⟩ := hW.at hk hFk
  have hcls := (hK.1 ci r hc).2
  obtain ⟨kA, comp, k1, k2, k3, -⟩ := (hK.2 t0 _ ht).2
  have hcomp : comp = G.1.1 ci := Option.some.inj (k3.symm.trans hcls.1)
  subst hcomp
  obtain ⟨kC, hkC, -⟩ := hcls.2
  refine W.aast hexec hb (hW.at hi hF) (fun q h => by cases h) (fun h => by cases h) k1 k2 rfl hkC ⟨h0, by show _ < (arrV _ _ _).slots.size; rw [arrV_size]; exact hlt2⟩ g1 (fun q h => by rw [g3] at h; cases h) (by rw [g2]; exact hkC) (by rw [g2]; exact va_assign hcls) rfl rfl hdg fun H1 e z oq => ?_
  refine kk H1 _ (hW.put hi ?_ oq) (hS0.put z oq (hW.1 i hi).2) z
  show H1[ad i]? = some (vp_cell _ _)
  rw [e, h2]
  rw [vp_cell_q, vp_cell_q, arrV_store]
  congr 2
  funext q
  by_cases hq : q = j
  · subst hq
    simp [updV, va_up, va_rf]
  · simp [updV, va_up, hq]
end CKR
-- ===== calls =====
/-- a truth value that a method answers -/
def ck_b (c : Prop) (r : Int32) : Prop := (c ∧ r = 1) ∨ (¬ c ∧ r = 0)
def ck_Qi (G : ck_G) (post : Int32 → Heap → Prop) : Array Value → State → Outcome → State → Prop := fun _ st oc t => (∃ r : Int32, oc = .returned (some (.int r)) ∧ post r t.heap) ∧ va_F (ck_A G) st t
def ck_Qv (G : ck_G) (post : Heap → Prop) : Array Value → State → Outcome → State → Prop := fun _ st oc t => (oc = .returned none ∧ post t.heap) ∧ va_F (ck_A G) st t
def ck_Qr (G : ck_G) (post : Option Nat → Heap → Prop) : Array Value → State → Outcome → State → Prop := fun _ st oc t => (∃ r : Option Nat, oc = .returned (some (va_rf r)) ∧ post r t.heap) ∧ va_F (ck_A G) st t
theorem ck_sKeep {G : ck_G} {H0 H : Heap} {locs L : List Loc} {st t : State} (hS : va_S (ck_A G) H0 H locs) (h0 : st.heap = H) (hF : va_F (ck_A G) st t) (hL : ∀ q ∈ L, ck_A G q.base) : va_S (ck_A G) H0 t.heap (locs ++ L) ∧ H.size ≤ t.heap.size := by
  obtain ⟨hz, hk⟩ := hF
  rw [h0] at hz hk
  refine ⟨⟨Nat.le_trans hS.1 hz, fun q h1 h2 => (hk q (Nat.lt_of_lt_of_le h1 hS.1) h2).trans (hS.2.1 q h1 h2), fun q hq => ?_⟩, hz⟩
  rcases List.mem_append.mp hq with h | h
  · exact hS.2.2 q h
  · exact hL q h
section CKC
variable {p : Program} {l : Launch} {e : Env} {R : Room} {s : State} {m : MethodId} {args : Array Value} {below : List Frame} {meth : Method} {c : Code} {H H0 : Heap} {locs : List Loc} {cells slots mc ms : Nat} {Q : State → Prop}
variable {y : MethodName} {bytes cc : ByteArray} {maxL nL n index : Nat} {ret : Option FieldType} {ws : List Cond} {rm : Room} {Ts : List Cond} {own C host : String} {b : Addr} {pc : Nat} {ls : Array Slot} {st rest As : List Value} {lv : List (Nat × Value)} {G : ck_G}
theorem ck_cVi {post : Int32 → Prop} (S : CallFix p m c cc nL s args Ts own) (hKK : ck_K G H s) (hM : Met l y ws rm (ck_P G H (.ref b :: As)) (vp_Si post) 0 0 (fun _ => False)) (cw : CallW R s args own C index y bytes maxL ret ws rm 0 0 n) (hrc : ∃ cellB : Cell, H[b]? = some cellB ∧ cellB.vm.isStatics = false ∧ s.vm.findClass C = some cellB.cls) (hn : As.length = n) (hl : lv_has ls nL lv) (hst : st = As.reverse ++ .ref b :: rest) (hcat : (rest.map fun v => v.category).sum ≤ 8) (hdg : decode cc pc = .ok (.invokevirtual index, 3)) (hf : cells + 0 ≤ R.cells ∧ slots + 0 ≤ R.slots)
    (kk : ∀ r : Int32, post r → W p l e R s m args below meth c H locs cells slots Q (F0 m (pc + 3) ls (.int r :: rest))) : W p l e R s m args below meth c H locs cells slots Q (F0 m pc ls st) :=
  vp_callSi (W.runV (g := F0 m pc ls st) S hM cw ⟨ck_blind, hrc, ck_pre hKK⟩ rfl hn hl.1 hst (lv_room hcat) hdg hf) kk
theorem ck_cVq {post : Option Nat → Prop} (S : CallFix p m c cc nL s args Ts own) (hKK : ck_K G H s) (hM : Met l y ws rm (ck_P G H (.ref b :: As)) (va_Sq post) 0 0 (fun _ => False)) (cw : CallW R s args own C index y bytes maxL ret ws rm 0 0 n) (hrc : ∃ cellB : Cell, H[b]? = some cellB ∧ cellB.vm.isStatics = false ∧ s.vm.findClass C = some cellB.cls) (hn : As.length = n) (hl : lv_has ls nL lv) (hst : st = As.reverse ++ .ref b :: rest) (hcat : (rest.map fun v => v.category).sum ≤ 8) (hdg : decode cc pc = .ok (.invokevirtual index, 3)) (hf : cells + 0 ≤ R.cells ∧ slots + 0 ≤ R.slots)
    (kk : ∀ r : Option Nat, post r → W p l e R s m args below meth c H locs cells slots Q (F0 m (pc + 3) ls (va_rf r :: rest))) : W p l e R s m args below meth c H locs cells slots Q (F0 m pc ls st) :=
  va_csq (W.runV (g := F0 m pc ls st) S hM cw ⟨ck_blind, hrc, ck_pre hKK⟩ rfl hn hl.1 hst (lv_room hcat) hdg hf) kk
theorem ck_cSi {post : Int32 → Prop} (S : CallFix p m c cc nL s args Ts own) (hKK : ck_K G H s) (hM : Met l y ws rm (ck_P G H As) (vp_Si post) 0 0 (fun _ => False)) (cw : CallB R s args own index y bytes maxL ret ws rm 0 0 n ∧ (Cond.static y).before args s = true) (hn : As.length = n) (hl : lv_has ls nL lv) (hst : st = As.reverse ++ rest) (hcat : (rest.map fun v => v.category).sum ≤ 8) (hdg : decode cc pc = .ok (.invokestatic index, 3)) (hf : cells + 0 ≤ R.cells ∧ slots + 0 ≤ R.slots)
    (kk : ∀ r : Int32, post r → W p l e R s m args below meth c H locs cells slots Q (F0 m (pc + 3) ls (.int r :: rest))) : W p l e R s m args below meth c H locs cells slots Q (F0 m pc ls st) :=
  vp_callSi (W.runS (g := F0 m pc ls st) S hM cw ⟨ck_blind, ck_pre hKK⟩ rfl hn hl.1 hst (lv_room hcat) hdg hf) kk
theorem ck_cSl {post : Int64 → Prop} (S : CallFix p m c cc nL s args Ts own) (hKK : ck_K G H s) (hM : Met l y ws rm (ck_P G H As) (vp_Sl post) 0 0 (fun _ => False)) (cw : CallB R s args own index y bytes maxL ret ws rm 0 0 n ∧ (Cond.static y).before args s = true) (hn : As.length = n) (hl : lv_has ls nL lv) (hst : st = As.reverse ++ rest) (hcat : (rest.map fun v => v.category).sum ≤ 8) (hdg : decode cc pc = .ok (.invokestatic index, 3)) (hf : cells + 0 ≤ R.cells ∧ slots + 0 ≤ R.slots)
    (kk : ∀ r : Int64, post r → W p l e R s m args below meth c H locs cells slots Q (F0 m (pc + 3) ls (.long r :: rest))) : W p l e R s m args below meth c H locs cells slots Q (F0 m pc ls st) :=
  vp_callSl (W.runS (g := F0 m pc ls st) S hM cw ⟨ck_blind, ck_pre hKK⟩ rfl hn hl.1 hst (lv_room hcat) hdg hf) kk
theorem ck_toCR {g : JFrame} {Qa : State → Outcome → State → Prop} {free : Addr → Prop} (h : va_Run p l e R s m args below meth c H locs cells slots mc ms g rest Qa free) : CallRun p l e R s m args below meth c H locs cells slots mc ms g rest Qa free := by
  intro T hT X
  obtain ⟨v, st₀, t, T', L, h0, X', hL, e1, -, hq, hst⟩ := h T hT X
  exact ⟨v, st₀, t, T', L, h0, X', hL, e1, hq, hst⟩
/-- a private static method of a nest mate -/
theorem ck_cNi {post : Int32 → Prop} (S : CallFix p m c cc nL s args Ts own) (hKK : ck_K G H s) (hM : Met l y ws rm (ck_P G H As) (vp_Si post) 0 0 (fun _ => False)) (cw : va_CN R s args own index y host bytes maxL ret ws rm 0 0 n ∧ (Cond.static y).before args s = true ∧ True) (hn : As.length = n) (hl : lv_has ls nL lv) (hst : st = As.reverse ++ rest) (hcat : (rest.map fun v => v.category).sum ≤ 8) (hdg : decode cc pc = .ok (.invokestatic index, 3)) (hf : cells + 0 ≤ R.cells ∧ slots + 0 ≤ R.slots)
    (kk : ∀ r : Int32, post r → W p l e R s m args below meth c H locs cells slots Q (F0 m (pc + 3) ls (.int r :: rest))) : W p l e R s m args below meth c H locs cells slots Q (F0 m pc ls st) :=
  vp_callSi (ck_toCR (va_runSN (g := F0 m pc ls st) S hM cw ⟨ck_blind, ck_pre hKK⟩ rfl hn hl.1 hst (lv_room hcat) hdg hf)) kk
theorem ck_cVw {post : Int32 → Heap → Prop} (S : CallFix p m c cc nL s args Ts own) (hKK : ck_K G H s) (hM : Met l y ws rm (ck_P G H (.ref b :: As)) (ck_Qi G post) mc ms (ck_A G)) (cw : CallW R s args own C index y bytes maxL ret ws rm mc ms n) (hrc : ∃ cellB : Cell, H[b]? = some cellB ∧ cellB.vm.isStatics = false ∧ s.vm.findClass C = some cellB.cls) (hn : As.length = n) (hl : lv_has ls nL lv) (hst : st = As.reverse ++ .ref b :: rest) (hcat : (rest.map fun v => v.category).sum ≤ 8) (hdg : decode cc pc = .ok (.invokevirtual index, 3)) (hf : cells + mc ≤ R.cells ∧ slots + ms ≤ R.slots) (hS : va_S (ck_A G) H0 H locs)
    (kk : ∀ (r : Int32) (H1 : Heap) (locs1 : List Loc), post r H1 → H.size ≤ H1.size → va_S (ck_A G) H0 H1 locs1 → W p l e R s m args below meth c H1 locs1 (cells + mc) (slots + ms) Q (F0 m (pc + 3) ls (.int r :: rest))) : W p l e R s m args below meth c H locs cells slots Q (F0 m pc ls st) := by
  intro T hT X
  obtain ⟨v, st₀, t, T', L, h0, X', hL, e1, ⟨⟨r, hv, hp⟩, hF⟩, st⟩ := (W.runV (g := F0 m pc ls st) S hM cw ⟨ck_blind, hrc, ck_pre hKK⟩ rfl hn hl.1 hst (lv_room hcat) hdg hf) T hT X
  cases hv
  obtain ⟨k1, k2⟩ := ck_sKeep hS h0 hF hL
  obtain ⟨t2, a1, b1⟩ := kk r t.heap (locs ++ L) hp k2 k1 T' e1 X'
  exact ⟨t2, st t2 a1, b1⟩
theorem ck_cVr {post : Option Nat → Heap → Prop} (S : CallFix p m c cc nL s args Ts own) (hKK : ck_K G H s) (hM : Met l y ws rm (ck_P G H (.ref b :: As)) (ck_Qr G post) mc ms (ck_A G)) (cw : CallW R s args own C index y bytes maxL ret ws rm mc ms n) (hrc : ∃ cellB : Cell, H[b]? = some cellB ∧ cellB.vm.isStatics = false ∧ s.vm.findClass C = some cellB.cls) (hn : As.length = n) (hl : lv_has ls nL lv) (hst : st = As.reverse ++ .ref b :: rest) (hcat : (rest.map fun v => v.category).sum ≤ 8) (hdg : decode cc pc = .ok (.invokevirtual index, 3)) (hf : cells + mc ≤ R.cells ∧ slots + ms ≤ R.slots) (hS : va_S (ck_A G) H0 H locs)
    (kk : ∀ (r : Option Nat) (H1 : Heap) (locs1 : List Loc), post r H1 → H.size ≤ H1.size → va_S (ck_A G) H0 H1 locs1 → W p l e R s m args below meth c H1 locs1 (cells + mc) (slots + ms) Q (F0 m (pc + 3) ls (va_rf r :: rest))) : W p l e R s m args below meth c H locs cells slots Q (F0 m pc ls st) := by
  intro T hT X
  obtain ⟨v, st₀, t, T', L, h0, X', hL, e1, ⟨⟨r, hv, hp⟩, hF⟩, st⟩ := (W.runV (g := F0 m pc ls st) S hM cw ⟨ck_blind, hrc, ck_pre hKK⟩ rfl hn hl.1 hst (lv_room hcat) hdg hf) T hT X
  cases hv
  obtain ⟨k1, k2⟩ := ck_sKeep hS h0 hF hL
  obtain ⟨t2, a1, b1⟩ := kk r t.heap (locs ++ L) hp k2 k1 T' e1 X'
  exact ⟨t2, st t2 a1, b1⟩
theorem ck_cVn {post : Heap → Prop} (S : CallFix p m c cc nL s args Ts own) (hKK : ck_K G H s) (hM : Met l y ws rm (ck_P G H (.ref b :: As)) (ck_Qv G post) mc ms (ck_A G)) (cw : CallW R s args own C index y bytes maxL ret ws rm mc ms n) (hrc : ∃ cellB : Cell, H[b]? = some cellB ∧ cellB.vm.isStatics = false ∧ s.vm.findClass C = some cellB.cls) (hn : As.length = n) (hl : lv_has ls nL lv) (hst : st = As.reverse ++ .ref b :: rest) (hcat : (rest.map fun v => v.category).sum ≤ 8) (hdg : decode cc pc = .ok (.invokevirtual index, 3)) (hf : cells + mc ≤ R.cells ∧ slots + ms ≤ R.slots) (hS : va_S (ck_A G) H0 H locs)
    (kk : ∀ (H1 : Heap) (locs1 : List Loc), post H1 → H.size ≤ H1.size → va_S (ck_A G) H0 H1 locs1 → W p l e R s m args below meth c H1 locs1 (cells + mc) (slots + ms) Q (F0 m (pc + 3) ls rest)) : W p l e R s m args below meth c H locs cells slots Q (F0 m pc ls st) := by
  intro T hT X
  obtain ⟨v, st₀, t, T', L, h0, X', hL, e1, ⟨⟨hv, hp⟩, hF⟩, st⟩ := (W.runV (g := F0 m pc ls st) S hM cw ⟨ck_blind, hrc, ck_pre hKK⟩ rfl hn hl.1 hst (lv_room hcat) hdg hf) T hT X
  cases hv
  obtain ⟨k1, k2⟩ := ck_sKeep hS h0 hF hL
  obtain ⟨t2, a1, b1⟩ := kk t.heap (locs ++ L) hp k2 k1 T' e1 X'
  exact ⟨t2, st t2 a1, b1⟩
end CKC
/-- a loop that counts from 0 to nN over locals lv k -/
theorem ck_loop {P : Array Slot → Prop} {nL : Nat} {ls : Array Slot} (nN : Nat) (lv : Nat → List (Nat × Value)) (I : Nat → Prop) (h0 : lv_has ls nL (lv 0)) (i0 : I 0) (hexit : ∀ ls, lv_has ls nL (lv nN) → I nN → P ls) (hstep : ∀ k, k < nN → I k → (∀ ls, lv_has ls nL (lv (k + 1)) → I (k + 1) → P ls) → ∀ ls, lv_has ls nL (lv k) → P ls) : P ls := by
  have key : ∀ n k, k + n = nN → I k → ∀ ls, lv_has ls nL (lv k) → P ls := by
    intro n
    induction n with
    | zero => intro k hk hi ls hl; have : k = nN := by omega
              subst this; exact hexit ls hl hi
    | succ n ih => intro k hk hi ls hl; exact hstep k (by omega) hi (fun ls hl hi => ih (k + 1) (by omega) hi ls hl) ls hl
  exact key nN 0 (by omega) i0 ls h0
/-- the same over a heap that changes -/
theorem ck_loopW {P : Array Slot → Heap → List Loc → Prop} {nL : Nat} {ls : Array Slot} {H : Heap} {locs : List Loc} (nN : Nat) (lv : Nat → List (Nat × Value)) (I : Nat → Heap → List Loc → Prop) (h0 : lv_has ls nL (lv 0)) (i0 : I 0 H locs) (hexit : ∀ ls H locs, lv_has ls nL (lv nN) → I nN H locs → P ls H locs) (hstep : ∀ k, k < nN → (∀ ls H locs, lv_has ls nL (lv (k + 1)) → I (k + 1) H locs → P ls H locs) → ∀ ls H locs, lv_has ls nL (lv k) → I k H locs → P ls H locs) : P ls H locs := by
  have key : ∀ n k, k + n = nN → ∀ ls H locs, lv_has ls nL (lv k) → I k H locs → P ls H locs := by
    intro n
    induction n with
    | zero => intro k hk ls H locs hl hi; have : k = nN := by omega
              subst this; exact hexit ls H locs hl hi
    | succ n ih => intro k hk ls H locs hl hi; exact hstep k (by omega) (fun ls H locs hl hi => ih (k + 1) (by omega) ls H locs hl hi) ls H locs hl hi
  exact key nN 0 (by omega) ls H locs h0 i0
end
section
set_option maxHeartbeats 4000000 in
set_option maxRecDepth 100000 in
theorem ct_X4_within (l : Launch) (G : ck_G) (H : Heap) (a0 a1 a2 : Int32) : Met l yX4_within wsX4_within ({ frames := 0, cells := 0, slots := 0, locals := 0 }) (ck_P G H [.int a0, .int a1, .int a2]) (vp_Si (fun r => ck_b (a1 ≤ a0 ∧ a0 ≤ a2) r)) 0 0 (fun _ => False) := by
  refine Met.ofW (cc := cX4_within) (maxL := 3) (ret := (some .boolean)) (by decide) rfl ?_
  intro p e s m args below meth c s₁ B hml hv
  obtain ⟨rfl, hH, hKK⟩ := hv
  subst hH
  have hx := B.exec
  have hb := B.bytes
  have hr := B.returns
  have hts := atoms_spec (ws := wsX4_within) B.pre
  have hown : s.vm.findClass RX4 = some m.cls := findClass_of_methodNamed B.named
  have hlocks := B.notSynchronized
  have hKK0 := hKK
  have hK := hKK.1.1
  have hl := lv_entry ([.int a0, .int a1, .int a2]) (n := 3) (Nat.le_of_ble_eq_true rfl)
  rw [lg_entry_eq]
  generalize (lg_sl ([.int a0, .int a1, .int a2]) ++ List.replicate (3 - (lg_sl ([.int a0, .int a1, .int a2])).length) Slot.unset).toArray = ls at hl ⊢
  have hl : lv_has ls 3 [(0, .int a0), (1, .int a1), (2, .int a2)] := hl
  refine lv_iload_n hx hb dX4_within_0 rfl (lv_at hl 0 rfl) ?_
  refine lv_iload_n hx hb dX4_within_1 rfl (lv_at hl 1 rfl) ?_
  refine lv_icmp_lt (tgt := 14) hx hb dX4_within_2 (by decide) (fun c_2 => ?_) (fun c_2 => ?_)
  · skip
    refine lv_iconst (v := 0) hx hb dX4_within_14 (by decide) ?_
    exact W.zret (v := 0) hx hb hr rfl (fun t ht hW9 => ⟨_, rfl, Or.inr ⟨fun h => absurd h.1 (Int32.not_le.mpr c_2), rfl⟩, ht⟩) (fun _ h => nomatch h) dX4_within_15
  · skip
    refine lv_iload_n hx hb dX4_within_5 rfl (lv_at hl 0 rfl) ?_
    refine lv_iload_n hx hb dX4_within_6 rfl (lv_at hl 2 rfl) ?_
    refine lv_icmp_gt (tgt := 14) hx hb dX4_within_7 (by decide) (fun c_7 => ?_) (fun c_7 => ?_)
    · skip
      refine lv_iconst (v := 0) hx hb dX4_within_14 (by decide) ?_
      exact W.zret (v := 0) hx hb hr rfl (fun t ht hW9 => ⟨_, rfl, Or.inr ⟨fun h => absurd h.2 (Int32.not_le.mpr c_7), rfl⟩, ht⟩) (fun _ h => nomatch h) dX4_within_15
    · skip
      refine lv_iconst (v := 1) hx hb dX4_within_10 (by decide) ?_
      refine lv_goto (tgt := 15) hx hb dX4_within_11 (by decide) ?_
      exact W.zret (v := 1) hx hb hr rfl (fun t ht hW9 => ⟨_, rfl, Or.inl ⟨⟨Int32.not_lt.mp c_2, Int32.not_lt.mp c_7⟩, rfl⟩, ht⟩) (fun _ h => nomatch h) dX4_within_15
set_option maxHeartbeats 4000000 in
set_option maxRecDepth 100000 in
theorem ct_X5_in (l : Launch) (G : ck_G) (H : Heap) (a0 a1 a2 : Int32) : Met l yX5_in wsX5_in ({ frames := 0, cells := 0, slots := 0, locals := 0 }) (ck_P G H [.int a0, .int a1, .int a2]) (vp_Si (fun r => ck_b (a1 ≤ a0 ∧ a0 ≤ a2) r)) 0 0 (fun _ => False) := by
  refine Met.ofW (cc := cX5_in) (maxL := 3) (ret := (some .boolean)) (by decide) rfl ?_
  intro p e s m args below meth c s₁ B hml hv
  obtain ⟨rfl, hH, hKK⟩ := hv
  subst hH
  have hx := B.exec
  have hb := B.bytes
  have hr := B.returns
  have hts := atoms_spec (ws := wsX5_in) B.pre
  have hown : s.vm.findClass RX5 = some m.cls := findClass_of_methodNamed B.named
  have hlocks := B.notSynchronized
  have hKK0 := hKK
  have hK := hKK.1.1
  have hl := lv_entry ([.int a0, .int a1, .int a2]) (n := 3) (Nat.le_of_ble_eq_true rfl)
  rw [lg_entry_eq]
  generalize (lg_sl ([.int a0, .int a1, .int a2]) ++ List.replicate (3 - (lg_sl ([.int a0, .int a1, .int a2])).length) Slot.unset).toArray = ls at hl ⊢
  have hl : lv_has ls 3 [(0, .int a0), (1, .int a1), (2, .int a2)] := hl
  refine lv_iload_n hx hb dX5_in_0 rfl (lv_at hl 0 rfl) ?_
  refine lv_iload_n hx hb dX5_in_1 rfl (lv_at hl 1 rfl) ?_
  refine lv_icmp_lt (tgt := 14) hx hb dX5_in_2 (by decide) (fun c_2 => ?_) (fun c_2 => ?_)
  · skip
    refine lv_iconst (v := 0) hx hb dX5_in_14 (by decide) ?_
    exact W.zret (v := 0) hx hb hr rfl (fun t ht hW9 => ⟨_, rfl, Or.inr ⟨fun h => absurd h.1 (Int32.not_le.mpr c_2), rfl⟩, ht⟩) (fun _ h => nomatch h) dX5_in_15
  · skip
    refine lv_iload_n hx hb dX5_in_5 rfl (lv_at hl 0 rfl) ?_
    refine lv_iload_n hx hb dX5_in_6 rfl (lv_at hl 2 rfl) ?_
    refine lv_icmp_gt (tgt := 14) hx hb dX5_in_7 (by decide) (fun c_7 => ?_) (fun c_7 => ?_)
    · skip
      refine lv_iconst (v := 0) hx hb dX5_in_14 (by decide) ?_
      exact W.zret (v := 0) hx hb hr rfl (fun t ht hW9 => ⟨_, rfl, Or.inr ⟨fun h => absurd h.2 (Int32.not_le.mpr c_7), rfl⟩, ht⟩) (fun _ h => nomatch h) dX5_in_15
    · skip
      refine lv_iconst (v := 1) hx hb dX5_in_10 (by decide) ?_
      refine lv_goto (tgt := 15) hx hb dX5_in_11 (by decide) ?_
      exact W.zret (v := 1) hx hb hr rfl (fun t ht hW9 => ⟨_, rfl, Or.inl ⟨⟨Int32.not_lt.mp c_2, Int32.not_lt.mp c_7⟩, rfl⟩, ht⟩) (fun _ h => nomatch h) dX5_in_15
def ck_isN (x : Int32) : Prop := 1000 ≤ x ∧ x ≤ 99999999
def ck_isP (x : Int32) : Prop := 1 ≤ x ∧ x ≤ 99999
def ck_isD (x : Int32) : Prop := 0 ≤ x ∧ x ≤ 999
set_option maxHeartbeats 4000000 in
set_option maxRecDepth 100000 in
theorem ct_X4_isNumber (l : Launch) (G : ck_G) (H : Heap) (a0 : Int32) : Met l yX4_isNumber wsX4_isNumber ({ frames := 1, cells := 0, slots := 0, locals := 22 }) (ck_P G H [.int a0]) (vp_Si (fun r => ck_b (ck_isN a0) r)) 0 0 (fun _ => False) := by
  refine Met.ofW (cc := cX4_isNumber) (maxL := 1) (ret := (some .boolean)) (by decide) rfl ?_
  intro p e s m args below meth c s₁ B hml hv
  obtain ⟨rfl, hH, hKK⟩ := hv
  subst hH
  have hx := B.exec
  have hb := B.bytes
  have hr := B.returns
  have hts := atoms_spec (ws := wsX4_isNumber) B.pre
  have hown : s.vm.findClass RX4 = some m.cls := findClass_of_methodNamed B.named
  have hlocks := B.notSynchronized
  have hKK0 := hKK
  have hK := hKK.1.1
  have hl := lv_entry ([.int a0]) (n := 1) (Nat.le_of_ble_eq_true rfl)
  rw [lg_entry_eq]
  generalize (lg_sl ([.int a0]) ++ List.replicate (1 - (lg_sl ([.int a0])).length) Slot.unset).toArray = ls at hl ⊢
  have hl : lv_has ls 1 [(0, .int a0)] := hl
  refine lv_iload_n hx hb dX4_isNumber_0 rfl (lv_at hl 0 rfl) ?_
  refine lv_sipush (v := 1000) hx hb dX4_isNumber_1 (by decide) ?_
  refine lv_ldc (v := 99999999) hx hb hown (hts _ (List.mem_of_getElem? (i := 1) rfl)) dX4_isNumber_4 ?_
  refine ck_cSi (As := [.int a0, .int 1000, .int 99999999]) (rest := []) ⟨hx, hb, hml, hown, hts⟩ hKK (ct_X4_within l G s.heap a0 1000 99999999) (va_cwS 3 hts gX4_isNumber_X4_within rfl rfl rfl (by decide +kernel) ⟨Nat.le_of_ble_eq_true rfl, Nat.le_of_ble_eq_true rfl⟩) rfl hl rfl (Nat.le_of_ble_eq_true rfl) dX4_isNumber_6 ⟨Nat.le_of_ble_eq_true rfl, Nat.le_of_ble_eq_true rfl⟩ (fun r_6 h_6 => ?_)
  rcases h_6 with ⟨h_6, rfl⟩ | ⟨h_6, rfl⟩
  · skip
    exact W.zret (v := 1) hx hb hr rfl (fun t ht hW9 => ⟨_, rfl, Or.inl ⟨h_6, rfl⟩, ht⟩) (fun _ h => nomatch h) dX4_isNumber_9
  · skip
    exact W.zret (v := 0) hx hb hr rfl (fun t ht hW9 => ⟨_, rfl, Or.inr ⟨h_6, rfl⟩, ht⟩) (fun _ h => nomatch h) dX4_isNumber_9
set_option maxHeartbeats 4000000 in
set_option maxRecDepth 100000 in
theorem ct_X4_isPrefix (l : Launch) (G : ck_G) (H : Heap) (a0 : Int32) : Met l yX4_isPrefix wsX4_isPrefix ({ frames := 1, cells := 0, slots := 0, locals := 22 }) (ck_P G H [.int a0]) (vp_Si (fun r => ck_b (ck_isP a0) r)) 0 0 (fun _ => False) := by
  refine Met.ofW (cc := cX4_isPrefix) (maxL := 1) (ret := (some .boolean)) (by decide) rfl ?_
  intro p e s m args below meth c s₁ B hml hv
  obtain ⟨rfl, hH, hKK⟩ := hv
  subst hH
  have hx := B.exec
  have hb := B.bytes
  have hr := B.returns
  have hts := atoms_spec (ws := wsX4_isPrefix) B.pre
  have hown : s.vm.findClass RX4 = some m.cls := findClass_of_methodNamed B.named
  have hlocks := B.notSynchronized
  have hKK0 := hKK
  have hK := hKK.1.1
  have hl := lv_entry ([.int a0]) (n := 1) (Nat.le_of_ble_eq_true rfl)
  rw [lg_entry_eq]
  generalize (lg_sl ([.int a0]) ++ List.replicate (1 - (lg_sl ([.int a0])).length) Slot.unset).toArray = ls at hl ⊢
  have hl : lv_has ls 1 [(0, .int a0)] := hl
  refine lv_iload_n hx hb dX4_isPrefix_0 rfl (lv_at hl 0 rfl) ?_
  refine lv_iconst (v := 1) hx hb dX4_isPrefix_1 (by decide) ?_
  refine lv_ldc (v := 99999) hx hb hown (hts _ (List.mem_of_getElem? (i := 1) rfl)) dX4_isPrefix_2 ?_
  refine ck_cSi (As := [.int a0, .int 1, .int 99999]) (rest := []) ⟨hx, hb, hml, hown, hts⟩ hKK (ct_X4_within l G s.heap a0 1 99999) (va_cwS 3 hts gX4_isPrefix_X4_within rfl rfl rfl (by decide +kernel) ⟨Nat.le_of_ble_eq_true rfl, Nat.le_of_ble_eq_true rfl⟩) rfl hl rfl (Nat.le_of_ble_eq_true rfl) dX4_isPrefix_4 ⟨Nat.le_of_ble_eq_true rfl, Nat.le_of_ble_eq_true rfl⟩ (fun r_4 h_4 => ?_)
  rcases h_4 with ⟨h_4, rfl⟩ | ⟨h_4, rfl⟩
  · skip
    exact W.zret (v := 1) hx hb hr rfl (fun t ht hW9 => ⟨_, rfl, Or.inl ⟨h_4, rfl⟩, ht⟩) (fun _ h => nomatch h) dX4_isPrefix_7
  · skip
    exact W.zret (v := 0) hx hb hr rfl (fun t ht hW9 => ⟨_, rfl, Or.inr ⟨h_4, rfl⟩, ht⟩) (fun _ h => nomatch h) dX4_isPrefix_7
set_option maxHeartbeats 4000000 in
set_option maxRecDepth 100000 in
theorem ct_X4_isDay (l : Launch) (G : ck_G) (H : Heap) (a0 : Int32) : Met l yX4_isDay wsX4_isDay ({ frames := 1, cells := 0, slots := 0, locals := 22 }) (ck_P G H [.int a0]) (vp_Si (fun r => ck_b (ck_isD a0) r)) 0 0 (fun _ => False) := by
  refine Met.ofW (cc := cX4_isDay) (maxL := 1) (ret := (some .boolean)) (by decide) rfl ?_
  intro p e s m args below meth c s₁ B hml hv
  obtain ⟨rfl, hH, hKK⟩ := hv
  subst hH
  have hx := B.exec
  have hb := B.bytes
  have hr := B.returns
  have hts := atoms_spec (ws := wsX4_isDay) B.pre
  have hown : s.vm.findClass RX4 = some m.cls := findClass_of_methodNamed B.named
  have hlocks := B.notSynchronized
  have hKK0 := hKK
  have hK := hKK.1.1
  have hl := lv_entry ([.int a0]) (n := 1) (Nat.le_of_ble_eq_true rfl)
  rw [lg_entry_eq]
  generalize (lg_sl ([.int a0]) ++ List.replicate (1 - (lg_sl ([.int a0])).length) Slot.unset).toArray = ls at hl ⊢
  have hl : lv_has ls 1 [(0, .int a0)] := hl
  refine lv_iload_n hx hb dX4_isDay_0 rfl (lv_at hl 0 rfl) ?_
  refine lv_iconst (v := 0) hx hb dX4_isDay_1 (by decide) ?_
  refine lv_sipush (v := 999) hx hb dX4_isDay_2 (by decide) ?_
  refine ck_cSi (As := [.int a0, .int 0, .int 999]) (rest := []) ⟨hx, hb, hml, hown, hts⟩ hKK (ct_X4_within l G s.heap a0 0 999) (va_cwS 3 hts gX4_isDay_X4_within rfl rfl rfl (by decide +kernel) ⟨Nat.le_of_ble_eq_true rfl, Nat.le_of_ble_eq_true rfl⟩) rfl hl rfl (Nat.le_of_ble_eq_true rfl) dX4_isDay_5 ⟨Nat.le_of_ble_eq_true rfl, Nat.le_of_ble_eq_true rfl⟩ (fun r_5 h_5 => ?_)
  rcases h_5 with ⟨h_5, rfl⟩ | ⟨h_5, rfl⟩
  · skip
    exact W.zret (v := 1) hx hb hr rfl (fun t ht hW9 => ⟨_, rfl, Or.inl ⟨h_5, rfl⟩, ht⟩) (fun _ h => nomatch h) dX4_isDay_8
  · skip
    exact W.zret (v := 0) hx hb hr rfl (fun t ht hW9 => ⟨_, rfl, Or.inr ⟨h_5, rfl⟩, ht⟩) (fun _ h => nomatch h) dX4_isDay_8
set_option maxHeartbeats 4000000 in
set_option maxRecDepth 100000 in
theorem ct_X5_isNumber (l : Launch) (G : ck_G) (H : Heap) (a0 : Int32) : Met l yX5_isNumber wsX5_isNumber ({ frames := 1, cells := 0, slots := 0, locals := 22 }) (ck_P G H [.int a0]) (vp_Si (fun r => ck_b (ck_isN a0) r)) 0 0 (fun _ => False) := by
  refine Met.ofW (cc := cX5_isNumber) (maxL := 1) (ret := (some .boolean)) (by decide) rfl ?_
  intro p e s m args below meth c s₁ B hml hv
  obtain ⟨rfl, hH, hKK⟩ := hv
  subst hH
  have hx := B.exec
  have hb := B.bytes
  have hr := B.returns
  have hts := atoms_spec (ws := wsX5_isNumber) B.pre
  have hown : s.vm.findClass RX5 = some m.cls := findClass_of_methodNamed B.named
  have hlocks := B.notSynchronized
  have hKK0 := hKK
  have hK := hKK.1.1
  have hl := lv_entry ([.int a0]) (n := 1) (Nat.le_of_ble_eq_true rfl)
  rw [lg_entry_eq]
  generalize (lg_sl ([.int a0]) ++ List.replicate (1 - (lg_sl ([.int a0])).length) Slot.unset).toArray = ls at hl ⊢
  have hl : lv_has ls 1 [(0, .int a0)] := hl
  refine lv_iload_n hx hb dX5_isNumber_0 rfl (lv_at hl 0 rfl) ?_
  refine lv_sipush (v := 1000) hx hb dX5_isNumber_1 (by decide) ?_
  refine lv_ldc (v := 99999999) hx hb hown (hts _ (List.mem_of_getElem? (i := 1) rfl)) dX5_isNumber_4 ?_
  refine ck_cSi (As := [.int a0, .int 1000, .int 99999999]) (rest := []) ⟨hx, hb, hml, hown, hts⟩ hKK (ct_X5_in l G s.heap a0 1000 99999999) (va_cwS 3 hts gX5_isNumber_X5_in rfl rfl rfl (by decide +kernel) ⟨Nat.le_of_ble_eq_true rfl, Nat.le_of_ble_eq_true rfl⟩) rfl hl rfl (Nat.le_of_ble_eq_true rfl) dX5_isNumber_6 ⟨Nat.le_of_ble_eq_true rfl, Nat.le_of_ble_eq_true rfl⟩ (fun r_6 h_6 => ?_)
  rcases h_6 with ⟨h_6, rfl⟩ | ⟨h_6, rfl⟩
  · skip
    exact W.zret (v := 1) hx hb hr rfl (fun t ht hW9 => ⟨_, rfl, Or.inl ⟨h_6, rfl⟩, ht⟩) (fun _ h => nomatch h) dX5_isNumber_9
  · skip
    exact W.zret (v := 0) hx hb hr rfl (fun t ht hW9 => ⟨_, rfl, Or.inr ⟨h_6, rfl⟩, ht⟩) (fun _ h => nomatch h) dX5_isNumber_9
set_option maxHeartbeats 4000000 in
set_option maxRecDepth 100000 in
theorem ct_X5_isPrefix (l : Launch) (G : ck_G) (H : Heap) (a0 : Int32) : Met l yX5_isPrefix wsX5_isPrefix ({ frames := 1, cells := 0, slots := 0, locals := 22 }) (ck_P G H [.int a0]) (vp_Si (fun r => ck_b (ck_isP a0) r)) 0 0 (fun _ => False) := by
  refine Met.ofW (cc := cX5_isPrefix) (maxL := 1) (ret := (some .boolean)) (by decide) rfl ?_
  intro p e s m args below meth c s₁ B hml hv
  obtain ⟨rfl, hH, hKK⟩ := hv
  subst hH
  have hx := B.exec
  have hb := B.bytes
  have hr := B.returns
  have hts := atoms_spec (ws := wsX5_isPrefix) B.pre
  have hown : s.vm.findClass RX5 = some m.cls := findClass_of_methodNamed B.named
  have hlocks := B.notSynchronized
  have hKK0 := hKK
  have hK := hKK.1.1
  have hl := lv_entry ([.int a0]) (n := 1) (Nat.le_of_ble_eq_true rfl)
  rw [lg_entry_eq]
  generalize (lg_sl ([.int a0]) ++ List.replicate (1 - (lg_sl ([.int a0])).length) Slot.unset).toArray = ls at hl ⊢
  have hl : lv_has ls 1 [(0, .int a0)] := hl
  refine lv_iload_n hx hb dX5_isPrefix_0 rfl (lv_at hl 0 rfl) ?_
  refine lv_iconst (v := 1) hx hb dX5_isPrefix_1 (by decide) ?_
  refine lv_ldc (v := 99999) hx hb hown (hts _ (List.mem_of_getElem? (i := 1) rfl)) dX5_isPrefix_2 ?_
  refine ck_cSi (As := [.int a0, .int 1, .int 99999]) (rest := []) ⟨hx, hb, hml, hown, hts⟩ hKK (ct_X5_in l G s.heap a0 1 99999) (va_cwS 3 hts gX5_isPrefix_X5_in rfl rfl rfl (by decide +kernel) ⟨Nat.le_of_ble_eq_true rfl, Nat.le_of_ble_eq_true rfl⟩) rfl hl rfl (Nat.le_of_ble_eq_true rfl) dX5_isPrefix_4 ⟨Nat.le_of_ble_eq_true rfl, Nat.le_of_ble_eq_true rfl⟩ (fun r_4 h_4 => ?_)
  rcases h_4 with ⟨h_4, rfl⟩ | ⟨h_4, rfl⟩
  · skip
    exact W.zret (v := 1) hx hb hr rfl (fun t ht hW9 => ⟨_, rfl, Or.inl ⟨h_4, rfl⟩, ht⟩) (fun _ h => nomatch h) dX5_isPrefix_7
  · skip
    exact W.zret (v := 0) hx hb hr rfl (fun t ht hW9 => ⟨_, rfl, Or.inr ⟨h_4, rfl⟩, ht⟩) (fun _ h => nomatch h) dX5_isPrefix_7
/-- the digits of a number that a prefix is held against -/
def ck_drop : Nat → Int32 → Int32 → Int32
  | 0, _, h => h
  | k + 1, q, h => if q < h then ck_drop k q (h / 10) else h
def ck_fit (q x : Int32) : Bool := decide (ck_drop 8 q x = q)
def ck_dv : Nat → Int32 → Int32
  | 0, x => x
  | k + 1, x => ck_dv k x / 10
theorem ck_drop_stop {q h : Int32} (c : ¬ q < h) : ∀ n, ck_drop n q h = h
  | 0 => rfl
  | n + 1 => by simp [ck_drop, c]
theorem ck_drop_go {q h x : Int32} {k : Nat} (hk : k < 8) (c : q < h) (hI : ck_drop (8 - k) q h = x) : ck_drop (8 - (k + 1)) q (h / 10) = x := by
  rw [show 8 - k = (8 - (k + 1)) + 1 by omega] at hI
  rw [← hI]; simp [ck_drop, c]
set_option maxHeartbeats 4000000 in
set_option maxRecDepth 100000 in
theorem ct_X4_fits (l : Launch) (G : ck_G) (H : Heap) (a0 a1 : Int32) : Met l yX4_fits wsX4_fits ({ frames := 0, cells := 0, slots := 0, locals := 0 }) (ck_P G H [.int a0, .int a1]) (vp_Si (fun r => ck_b (ck_fit a0 a1 = true) r)) 0 0 (fun _ => False) := by
  refine Met.ofW (cc := cX4_fits) (maxL := 4) (ret := (some .boolean)) (by decide) rfl ?_
  intro p e s m args below meth c s₁ B hml hv
  obtain ⟨rfl, hH, hKK⟩ := hv
  subst hH
  have hx := B.exec
  have hb := B.bytes
  have hr := B.returns
  have hts := atoms_spec (ws := wsX4_fits) B.pre
  have hown : s.vm.findClass RX4 = some m.cls := findClass_of_methodNamed B.named
  have hlocks := B.notSynchronized
  have hKK0 := hKK
  have hK := hKK.1.1
  have hl := lv_entry ([.int a0, .int a1]) (n := 4) (Nat.le_of_ble_eq_true rfl)
  rw [lg_entry_eq]
  generalize (lg_sl ([.int a0, .int a1]) ++ List.replicate (4 - (lg_sl ([.int a0, .int a1])).length) Slot.unset).toArray = ls at hl ⊢
  have hl : lv_has ls 4 [(0, .int a0), (1, .int a1)] := hl
  refine lv_iload_n hx hb dX4_fits_0 rfl (lv_at hl 1 rfl) ?_
  refine lv_istore_n (lv' := [(2, .int a1), (0, .int a0), (1, .int a1)]) hx hb dX4_fits_1 rfl hl (by decide) rfl (fun ls hl => ?_)
  refine lv_iconst (v := 0) hx hb dX4_fits_2 (by decide) ?_
  refine lv_istore_n (lv' := [(3, .int 0), (2, .int a1), (0, .int a0), (1, .int a1)]) hx hb dX4_fits_3 rfl hl (by decide) rfl (fun ls hl => ?_)
  refine ck_loop (P := fun ls => W p l e _ s m _ below meth c _ _ _ _ _ (F0 m _ ls _)) 8 (fun k => [(3, .int (nI k)), (2, .int (ck_dv k a1)), (0, .int a0), (1, .int a1)]) (fun k => ck_drop (8 - k) a0 (ck_dv k a1) = ck_drop 8 a0 a1) (lv_sub hl [0, 1, 2, 3] rfl) (rfl) ?_ ?_
  · intro ls hl hI4
    have hl : lv_has ls 4 [(3, .int (nI 8)), (2, .int (ck_dv 8 a1)), (0, .int a0), (1, .int a1)] := hl
    refine lv_iload_n hx hb dX4_fits_4 rfl (lv_at hl 0 rfl) ?_
    refine lv_bipush (v := 8) hx hb dX4_fits_5 (by decide) ?_
    refine lv_icmp_ge (tgt := 26) hx hb dX4_fits_7 (by decide) (fun _ => ?_) (fun c_7 => absurd (Int32.le_refl _) c_7)
    have hE : ck_drop 8 a0 a1 = ck_dv 8 a1 := hI4.symm
    refine lv_iload_n hx hb dX4_fits_26 rfl (lv_at hl 1 rfl) ?_
    refine lv_iload_n hx hb dX4_fits_27 rfl (lv_at hl 2 rfl) ?_
    refine lv_icmp_ne (tgt := 35) hx hb dX4_fits_28 (by decide) (fun c_28 => ?_) (fun c_28 => ?_)
    · skip
      refine lv_iconst (v := 0) hx hb dX4_fits_35 (by decide) ?_
      exact W.zret (v := 0) hx hb hr rfl (fun t ht hW9 => ⟨_, rfl, Or.inr ⟨fun h => c_28 (hE.symm.trans (of_decide_eq_true h)), rfl⟩, ht⟩) (fun _ h => nomatch h) dX4_fits_36
    · skip
      refine lv_iconst (v := 1) hx hb dX4_fits_31 (by decide) ?_
      refine lv_goto (tgt := 36) hx hb dX4_fits_32 (by decide) ?_
      exact W.zret (v := 1) hx hb hr rfl (fun t ht hW9 => ⟨_, rfl, Or.inl ⟨decide_eq_true (hE.trans c_28), rfl⟩, ht⟩) (fun _ h => nomatch h) dX4_fits_36
  · intro k4 hk4 hI4 ih4 ls hl
    have hl : lv_has ls 4 [(3, .int (nI k4)), (2, .int (ck_dv k4 a1)), (0, .int a0), (1, .int a1)] := hl
    refine lv_iload_n hx hb dX4_fits_4 rfl (lv_at hl 0 rfl) ?_
    refine lv_bipush (v := 8) hx hb dX4_fits_5 (by decide) ?_
    refine lv_icmp_ge (tgt := 26) hx hb dX4_fits_7 (by decide) (fun c_7 => absurd c_7 (nI_ge hk4 (by decide))) (fun _ => ?_)
    refine lv_iload_n hx hb dX4_fits_10 rfl (lv_at hl 1 rfl) ?_
    refine lv_iload_n hx hb dX4_fits_11 rfl (lv_at hl 2 rfl) ?_
    refine lv_icmp_le (tgt := 26) hx hb dX4_fits_12 (by decide) (fun c_12 => ?_) (fun c_12 => ?_)
    · skip
      have hE : ck_drop 8 a0 a1 = ck_dv k4 a1 := hI4.symm.trans (ck_drop_stop (Int32.not_lt.mpr c_12) _)
      refine lv_iload_n hx hb dX4_fits_26 rfl (lv_at hl 1 rfl) ?_
      refine lv_iload_n hx hb dX4_fits_27 rfl (lv_at hl 2 rfl) ?_
      refine lv_icmp_ne (tgt := 35) hx hb dX4_fits_28 (by decide) (fun c_28 => ?_) (fun c_28 => ?_)
      · skip
        refine lv_iconst (v := 0) hx hb dX4_fits_35 (by decide) ?_
        exact W.zret (v := 0) hx hb hr rfl (fun t ht hW9 => ⟨_, rfl, Or.inr ⟨fun h => c_28 (hE.symm.trans (of_decide_eq_true h)), rfl⟩, ht⟩) (fun _ h => nomatch h) dX4_fits_36
      · skip
        refine lv_iconst (v := 1) hx hb dX4_fits_31 (by decide) ?_
        refine lv_goto (tgt := 36) hx hb dX4_fits_32 (by decide) ?_
        exact W.zret (v := 1) hx hb hr rfl (fun t ht hW9 => ⟨_, rfl, Or.inl ⟨decide_eq_true (hE.trans c_28), rfl⟩, ht⟩) (fun _ h => nomatch h) dX4_fits_36
    · skip
      refine lv_iload_n hx hb dX4_fits_15 rfl (lv_at hl 1 rfl) ?_
      refine lv_bipush (v := 10) hx hb dX4_fits_16 (by decide) ?_
      refine lv_idiv hx hb dX4_fits_18 (by decide) ?_
      refine lv_istore_n (lv' := [(2, .int (((ck_dv k4 a1)) / 10)), (3, .int (nI k4)), (0, .int a0), (1, .int a1)]) hx hb dX4_fits_19 rfl hl (by decide) rfl (fun ls hl => ?_)
      refine lv_iinc (v := nI (k4 + 1)) (lv' := [(3, .int (nI (k4 + 1))), (2, .int (((ck_dv k4 a1)) / 10)), (0, .int a0), (1, .int a1)]) hx hb dX4_fits_20 hl (k := 1) rfl (nI_1 k4) (by decide) rfl (fun ls hl => ?_)
      refine lv_goto (tgt := 4) hx hb dX4_fits_23 (by decide) ?_
      exact ih4 ls (lv_sub hl [0, 1, 2, 3] rfl) (ck_drop_go hk4 (Int32.not_le.mp c_12) hI4)
def ck_up (a u : Int32) : Int32 := if u < 1 then 0 else (a + u - 1) / u
set_option maxHeartbeats 4000000 in
set_option maxRecDepth 100000 in
theorem ct_X2_quotientUp (l : Launch) (G : ck_G) (H : Heap) (a0 a1 : Int32) : Met l yX2_quotientUp wsX2_quotientUp ({ frames := 0, cells := 0, slots := 0, locals := 0 }) (ck_P G H [.int a0, .int a1]) (vp_Si (fun r => r = ck_up a0 a1)) 0 0 (fun _ => False) := by
  refine Met.ofW (cc := cX2_quotientUp) (maxL := 2) (ret := (some .int)) (by decide) rfl ?_
  intro p e s m args below meth c s₁ B hml hv
  obtain ⟨rfl, hH, hKK⟩ := hv
  subst hH
  have hx := B.exec
  have hb := B.bytes
  have hr := B.returns
  have hts := atoms_spec (ws := wsX2_quotientUp) B.pre
  have hown : s.vm.findClass RX2 = some m.cls := findClass_of_methodNamed B.named
  have hlocks := B.notSynchronized
  have hKK0 := hKK
  have hK := hKK.1.1
  have hl := lv_entry ([.int a0, .int a1]) (n := 2) (Nat.le_of_ble_eq_true rfl)
  rw [lg_entry_eq]
  generalize (lg_sl ([.int a0, .int a1]) ++ List.replicate (2 - (lg_sl ([.int a0, .int a1])).length) Slot.unset).toArray = ls at hl ⊢
  have hl : lv_has ls 2 [(0, .int a0), (1, .int a1)] := hl
  refine lv_iload_n hx hb dX2_quotientUp_0 rfl (lv_at hl 1 rfl) ?_
  refine lv_iconst (v := 1) hx hb dX2_quotientUp_1 (by decide) ?_
  refine lv_icmp_ge (tgt := 9) hx hb dX2_quotientUp_2 (by decide) (fun c_2 => ?_) (fun c_2 => ?_)
  · skip
    refine lv_iload_n hx hb dX2_quotientUp_9 rfl (lv_at hl 0 rfl) ?_
    refine lv_iload_n hx hb dX2_quotientUp_10 rfl (lv_at hl 1 rfl) ?_
    refine lv_iadd hx hb dX2_quotientUp_11 ?_
    refine lv_iconst (v := 1) hx hb dX2_quotientUp_12 (by decide) ?_
    refine lv_isub hx hb dX2_quotientUp_13 ?_
    refine lv_iload_n hx hb dX2_quotientUp_14 rfl (lv_at hl 1 rfl) ?_
    refine lv_idiv hx hb dX2_quotientUp_15 (fun h => absurd c_2 (by rw [h]; decide)) ?_
    exact W.iret (v := (((((a0 + a1)) - 1)) / a1)) hx hb hr (fun t ht hW9 => ⟨_, rfl, (by simp [ck_up, Int32.not_lt.mpr c_2]), ht⟩) (fun _ h => nomatch h) dX2_quotientUp_16
  · skip
    refine lv_iconst (v := 0) hx hb dX2_quotientUp_5 (by decide) ?_
    refine lv_goto (tgt := 16) hx hb dX2_quotientUp_6 (by decide) ?_
    exact W.iret (v := 0) hx hb hr (fun t ht hW9 => ⟨_, rfl, (by simp [ck_up, Int32.not_le.mp c_2]), ht⟩) (fun _ h => nomatch h) dX2_quotientUp_16
def ck_bit (q : Int32) : Int64 := (1 : Int64) <<< ((q - q / 64 * 64).toInt64 &&& 63)
set_option maxHeartbeats 4000000 in
set_option maxRecDepth 100000 in
theorem ct_X3_bitOf (l : Launch) (G : ck_G) (H : Heap) (a0 : Int32) : Met l yX3_bitOf wsX3_bitOf ({ frames := 0, cells := 0, slots := 0, locals := 0 }) (ck_P G H [.int a0]) (vp_Sl (fun r => r = ck_bit a0)) 0 0 (fun _ => False) := by
  refine Met.ofW (cc := cX3_bitOf) (maxL := 1) (ret := (some .long)) (by decide) rfl ?_
  intro p e s m args below meth c s₁ B hml hv
  obtain ⟨rfl, hH, hKK⟩ := hv
  subst hH
  have hx := B.exec
  have hb := B.bytes
  have hr := B.returns
  have hts := atoms_spec (ws := wsX3_bitOf) B.pre
  have hown : s.vm.findClass RX3 = some m.cls := findClass_of_methodNamed B.named
  have hlocks := B.notSynchronized
  have hKK0 := hKK
  have hK := hKK.1.1
  have hl := lv_entry ([.int a0]) (n := 1) (Nat.le_of_ble_eq_true rfl)
  rw [lg_entry_eq]
  generalize (lg_sl ([.int a0]) ++ List.replicate (1 - (lg_sl ([.int a0])).length) Slot.unset).toArray = ls at hl ⊢
  have hl : lv_has ls 1 [(0, .int a0)] := hl
  refine lv_lconst (v := 1) hx hb dX3_bitOf_0 (by decide) ?_
  refine lv_iload_n hx hb dX3_bitOf_1 rfl (lv_at hl 0 rfl) ?_
  refine lv_bipush (v := 64) hx hb dX3_bitOf_2 (by decide) ?_
  refine lv_irem hx hb dX3_bitOf_4 (by decide) ?_
  refine lv_lshl (v := 1 <<< (((a0 - a0 / 64 * 64) : Int32).toInt64 &&& 63)) hx hb dX3_bitOf_5 rfl ?_
  exact W.lret (v := (1 <<< (((a0 - a0 / 64 * 64) : Int32).toInt64 &&& 63))) hx hb hr (fun t ht hW9 => ⟨_, rfl, rfl, ht⟩) (fun _ h => nomatch h) dX3_bitOf_6
end
section
def ck_abs (x : Int32) : Int32 := if 0 ≤ x then x else 0 - x
def ck_bk (b : Int32) : Int32 := if b = -1 then 0 else b
set_option maxHeartbeats 4000000 in
set_option maxRecDepth 100000 in
theorem ct_X0_day (l : Launch) (G : ck_G) (H : Heap) (ad : Nat → Nat) (N : Nat → Prop) (F : Nat → va_E) (hW : ck_W G ad N F H) (i : Nat) (hN : N i) (v0 v1 v2 v3 v4 v5 v6 v7 : Int32) (hF : F i = .inr (0, [.int v0, .int v1, .int v2, .int v3, .int v4, .int v5, .int v6, .int v7])) : Met l yX0_day wsX0_day ({ frames := 0, cells := 0, slots := 0, locals := 0 }) (ck_P G H [.ref (ad i)]) (vp_Si (fun r => r = v2 / 1000)) 0 0 (fun _ => False) := by
  refine Met.ofW (cc := cX0_day) (maxL := 1) (ret := (some .int)) (by decide) rfl ?_
  intro p e s m args below meth c s₁ B hml hv
  obtain ⟨rfl, hH, hKK⟩ := hv
  subst hH
  have hx := B.exec
  have hb := B.bytes
  have hr := B.returns
  have hts := atoms_spec (ws := wsX0_day) B.pre
  have hown : s.vm.findClass RX0 = some m.cls := findClass_of_methodNamed B.named
  have hlocks := B.notSynchronized
  have hKK0 := hKK
  have hK := hKK.1.1
  have hinX0 : ∀ w ∈ u_ws RX0 TX0 8, w ∈ wsX0_day := by decide +kernel
  have hl := lv_entry ([.ref (ad i)]) (n := 1) (Nat.le_of_ble_eq_true rfl)
  rw [lg_entry_eq]
  generalize (lg_sl ([.ref (ad i)]) ++ List.replicate (1 - (lg_sl ([.ref (ad i)])).length) Slot.unset).toArray = ls at hl ⊢
  have hl : lv_has ls 1 [(0, .ref (ad i))] := hl
  refine lv_aload_n hx hb dX0_day_0 rfl (lv_at hl 0 rfl) ?_
  refine ck_get (v := .int v2) hx hb hts hinX0 hown hK hW hN hF rfl 2 (by decide) (hts _ (List.mem_of_getElem? (i := 1) rfl)) rfl rfl dX0_day_1 ?_
  refine lv_sipush (v := 1000) hx hb dX0_day_4 (by decide) ?_
  refine lv_idiv hx hb dX0_day_7 (by decide) ?_
  exact W.iret (v := (v2 / 1000)) hx hb hr (fun t ht hW9 => ⟨_, rfl, rfl, ht⟩) (fun _ h => nomatch h) dX0_day_8
set_option maxHeartbeats 4000000 in
set_option maxRecDepth 100000 in
theorem ct_X0_hasLegFrom (l : Launch) (G : ck_G) (H : Heap) (ad : Nat → Nat) (N : Nat → Prop) (F : Nat → va_E) (hW : ck_W G ad N F H) (i : Nat) (hN : N i) (v0 v1 v2 v3 v4 v5 v6 v7 : Int32) (hF : F i = .inr (0, [.int v0, .int v1, .int v2, .int v3, .int v4, .int v5, .int v6, .int v7])) (a0 : Int32) : Met l yX0_hasLegFrom wsX0_hasLegFrom ({ frames := 0, cells := 0, slots := 0, locals := 0 }) (ck_P G H [.ref (ad i), .int a0]) (vp_Si (fun r => ck_b (¬ (v4 &&& ((1 : Int32) <<< (a0 &&& 31))) = 0) r)) 0 0 (fun _ => False) := by
  refine Met.ofW (cc := cX0_hasLegFrom) (maxL := 2) (ret := (some .boolean)) (by decide) rfl ?_
  intro p e s m args below meth c s₁ B hml hv
  obtain ⟨rfl, hH, hKK⟩ := hv
  subst hH
  have hx := B.exec
  have hb := B.bytes
  have hr := B.returns
  have hts := atoms_spec (ws := wsX0_hasLegFrom) B.pre
  have hown : s.vm.findClass RX0 = some m.cls := findClass_of_methodNamed B.named
  have hlocks := B.notSynchronized
  have hKK0 := hKK
  have hK := hKK.1.1
  have hinX0 : ∀ w ∈ u_ws RX0 TX0 8, w ∈ wsX0_hasLegFrom := by decide +kernel
  have hl := lv_entry ([.ref (ad i), .int a0]) (n := 2) (Nat.le_of_ble_eq_true rfl)
  rw [lg_entry_eq]
  generalize (lg_sl ([.ref (ad i), .int a0]) ++ List.replicate (2 - (lg_sl ([.ref (ad i), .int a0])).length) Slot.unset).toArray = ls at hl ⊢
  have hl : lv_has ls 2 [(0, .ref (ad i)), (1, .int a0)] := hl
  refine lv_aload_n hx hb dX0_hasLegFrom_0 rfl (lv_at hl 0 rfl) ?_
  refine ck_get (v := .int v4) hx hb hts hinX0 hown hK hW hN hF rfl 4 (by decide) (hts _ (List.mem_of_getElem? (i := 1) rfl)) rfl rfl dX0_hasLegFrom_1 ?_
  refine lv_iconst (v := 1) hx hb dX0_hasLegFrom_4 (by decide) ?_
  refine lv_iload_n hx hb dX0_hasLegFrom_5 rfl (lv_at hl 1 rfl) ?_
  refine lv_ishl hx hb dX0_hasLegFrom_6 ?_
  refine lv_iand hx hb dX0_hasLegFrom_7 ?_
  refine lv_if_eq (tgt := 15) hx hb dX0_hasLegFrom_8 (by decide) (fun c_8 => ?_) (fun c_8 => ?_)
  · skip
    refine lv_iconst (v := 0) hx hb dX0_hasLegFrom_15 (by decide) ?_
    exact W.zret (v := 0) hx hb hr rfl (fun t ht hW9 => ⟨_, rfl, Or.inr ⟨fun h => h c_8, rfl⟩, ht⟩) (fun _ h => nomatch h) dX0_hasLegFrom_16
  · skip
    refine lv_iconst (v := 1) hx hb dX0_hasLegFrom_11 (by decide) ?_
    refine lv_goto (tgt := 16) hx hb dX0_hasLegFrom_12 (by decide) ?_
    exact W.zret (v := 1) hx hb hr rfl (fun t ht hW9 => ⟨_, rfl, Or.inl ⟨c_8, rfl⟩, ht⟩) (fun _ h => nomatch h) dX0_hasLegFrom_16
set_option maxHeartbeats 4000000 in
set_option maxRecDepth 100000 in
theorem ct_X0_beganWithin (l : Launch) (G : ck_G) (H : Heap) (ad : Nat → Nat) (N : Nat → Prop) (F : Nat → va_E) (hW : ck_W G ad N F H) (i : Nat) (hN : N i) (v0 v1 v2 v3 v4 v5 v6 v7 : Int32) (hF : F i = .inr (0, [.int v0, .int v1, .int v2, .int v3, .int v4, .int v5, .int v6, .int v7])) (a0 a1 a2 : Int32) : Met l yX0_beganWithin wsX0_beganWithin ({ frames := 1, cells := 0, slots := 0, locals := 21 }) (ck_P G H [.ref (ad i), .int a0, .int a1, .int a2]) (vp_Si (fun r => ck_b (ck_abs (a1 - v2) ≤ a0 ∧ ck_abs (a2 - v3) ≤ a0) r)) 0 0 (fun _ => False) := by
  refine Met.ofW (cc := cX0_beganWithin) (maxL := 4) (ret := (some .boolean)) (by decide) rfl ?_
  intro p e s m args below meth c s₁ B hml hv
  obtain ⟨rfl, hH, hKK⟩ := hv
  subst hH
  have hx := B.exec
  have hb := B.bytes
  have hr := B.returns
  have hts := atoms_spec (ws := wsX0_beganWithin) B.pre
  have hown : s.vm.findClass RX0 = some m.cls := findClass_of_methodNamed B.named
  have hlocks := B.notSynchronized
  have hKK0 := hKK
  have hK := hKK.1.1
  have hinX0 : ∀ w ∈ u_ws RX0 TX0 8, w ∈ wsX0_beganWithin := by decide +kernel
  have hl := lv_entry ([.ref (ad i), .int a0, .int a1, .int a2]) (n := 4) (Nat.le_of_ble_eq_true rfl)
  rw [lg_entry_eq]
  generalize (lg_sl ([.ref (ad i), .int a0, .int a1, .int a2]) ++ List.replicate (4 - (lg_sl ([.ref (ad i), .int a0, .int a1, .int a2])).length) Slot.unset).toArray = ls at hl ⊢
  have hl : lv_has ls 4 [(0, .ref (ad i)), (1, .int a0), (2, .int a1), (3, .int a2)] := hl
  refine lv_iload_n hx hb dX0_beganWithin_0 rfl (lv_at hl 2 rfl) ?_
  refine lv_aload_n hx hb dX0_beganWithin_1 rfl (lv_at hl 0 rfl) ?_
  refine ck_get (v := .int v2) hx hb hts hinX0 hown hK hW hN hF rfl 2 (by decide) (hts _ (List.mem_of_getElem? (i := 1) rfl)) rfl rfl dX0_beganWithin_2 ?_
  refine lv_isub hx hb dX0_beganWithin_5 ?_
  refine va_mabs hx hb (hml.trans hl.1.symm) hown (hts _ (List.mem_of_getElem? (i := 2) rfl)) (hts _ (List.mem_of_getElem? (i := 3) rfl)) (hts _ (List.mem_of_getElem? (i := 4) rfl)) (hts _ (List.mem_of_getElem? (i := 5) rfl)) (Nat.le_of_ble_eq_true rfl) (Nat.le_of_ble_eq_true rfl) (Nat.le_of_ble_eq_true rfl) (Nat.le_of_ble_eq_true rfl) dX0_beganWithin_6 ?_
  refine lv_iload_n hx hb dX0_beganWithin_9 rfl (lv_at hl 1 rfl) ?_
  refine lv_icmp_gt (tgt := 30) hx hb dX0_beganWithin_10 (by decide) (fun c_10 => ?_) (fun c_10 => ?_)
  · skip
    refine lv_iconst (v := 0) hx hb dX0_beganWithin_30 (by decide) ?_
    exact W.zret (v := 0) hx hb hr rfl (fun t ht hW9 => ⟨_, rfl, Or.inr ⟨fun h => absurd h.1 (Int32.not_le.mpr c_10), rfl⟩, ht⟩) (fun _ h => nomatch h) dX0_beganWithin_31
  · skip
    refine lv_iload_n hx hb dX0_beganWithin_13 rfl (lv_at hl 3 rfl) ?_
    refine lv_aload_n hx hb dX0_beganWithin_14 rfl (lv_at hl 0 rfl) ?_
    refine ck_get (v := .int v3) hx hb hts hinX0 hown hK hW hN hF rfl 3 (by decide) (hts _ (List.mem_of_getElem? (i := 6) rfl)) rfl rfl dX0_beganWithin_15 ?_
    refine lv_isub hx hb dX0_beganWithin_18 ?_
    refine va_mabs hx hb (hml.trans hl.1.symm) hown (hts _ (List.mem_of_getElem? (i := 2) rfl)) (hts _ (List.mem_of_getElem? (i := 3) rfl)) (hts _ (List.mem_of_getElem? (i := 4) rfl)) (hts _ (List.mem_of_getElem? (i := 5) rfl)) (Nat.le_of_ble_eq_true rfl) (Nat.le_of_ble_eq_true rfl) (Nat.le_of_ble_eq_true rfl) (Nat.le_of_ble_eq_true rfl) dX0_beganWithin_19 ?_
    refine lv_iload_n hx hb dX0_beganWithin_22 rfl (lv_at hl 1 rfl) ?_
    refine lv_icmp_gt (tgt := 30) hx hb dX0_beganWithin_23 (by decide) (fun c_23 => ?_) (fun c_23 => ?_)
    · skip
      refine lv_iconst (v := 0) hx hb dX0_beganWithin_30 (by decide) ?_
      exact W.zret (v := 0) hx hb hr rfl (fun t ht hW9 => ⟨_, rfl, Or.inr ⟨fun h => absurd h.2 (Int32.not_le.mpr c_23), rfl⟩, ht⟩) (fun _ h => nomatch h) dX0_beganWithin_31
    · skip
      refine lv_iconst (v := 1) hx hb dX0_beganWithin_26 (by decide) ?_
      refine lv_goto (tgt := 31) hx hb dX0_beganWithin_27 (by decide) ?_
      exact W.zret (v := 1) hx hb hr rfl (fun t ht hW9 => ⟨_, rfl, Or.inl ⟨⟨Int32.not_lt.mp c_10, Int32.not_lt.mp c_23⟩, rfl⟩, ht⟩) (fun _ h => nomatch h) dX0_beganWithin_31
set_option maxHeartbeats 4000000 in
set_option maxRecDepth 100000 in
theorem ct_X0_isBooked (l : Launch) (G : ck_G) (H : Heap) (ad : Nat → Nat) (N : Nat → Prop) (F : Nat → va_E) (hW : ck_W G ad N F H) (i : Nat) (hN : N i) (v0 v1 v2 v3 v4 v5 v6 v7 : Int32) (hF : F i = .inr (0, [.int v0, .int v1, .int v2, .int v3, .int v4, .int v5, .int v6, .int v7])) : Met l yX0_isBooked wsX0_isBooked ({ frames := 0, cells := 0, slots := 0, locals := 0 }) (ck_P G H [.ref (ad i)]) (vp_Si (fun r => ck_b (¬ v6 = -1) r)) 0 0 (fun _ => False) := by
  refine Met.ofW (cc := cX0_isBooked) (maxL := 1) (ret := (some .boolean)) (by decide) rfl ?_
  intro p e s m args below meth c s₁ B hml hv
  obtain ⟨rfl, hH, hKK⟩ := hv
  subst hH
  have hx := B.exec
  have hb := B.bytes
  have hr := B.returns
  have hts := atoms_spec (ws := wsX0_isBooked) B.pre
  have hown : s.vm.findClass RX0 = some m.cls := findClass_of_methodNamed B.named
  have hlocks := B.notSynchronized
  have hKK0 := hKK
  have hK := hKK.1.1
  have hinX0 : ∀ w ∈ u_ws RX0 TX0 8, w ∈ wsX0_isBooked := by decide +kernel
  have hl := lv_entry ([.ref (ad i)]) (n := 1) (Nat.le_of_ble_eq_true rfl)
  rw [lg_entry_eq]
  generalize (lg_sl ([.ref (ad i)]) ++ List.replicate (1 - (lg_sl ([.ref (ad i)])).length) Slot.unset).toArray = ls at hl ⊢
  have hl : lv_has ls 1 [(0, .ref (ad i))] := hl
  refine lv_aload_n hx hb dX0_isBooked_0 rfl (lv_at hl 0 rfl) ?_
  refine ck_get (v := .int v6) hx hb hts hinX0 hown hK hW hN hF rfl 6 (by decide) (hts _ (List.mem_of_getElem? (i := 1) rfl)) rfl rfl dX0_isBooked_1 ?_
  refine lv_iconst (v := (-1)) hx hb dX0_isBooked_4 (by decide) ?_
  refine lv_icmp_eq (tgt := 12) hx hb dX0_isBooked_5 (by decide) (fun c_5 => ?_) (fun c_5 => ?_)
  · skip
    refine lv_iconst (v := 0) hx hb dX0_isBooked_12 (by decide) ?_
    exact W.zret (v := 0) hx hb hr rfl (fun t ht hW9 => ⟨_, rfl, Or.inr ⟨fun h => h c_5, rfl⟩, ht⟩) (fun _ h => nomatch h) dX0_isBooked_13
  · skip
    refine lv_iconst (v := 1) hx hb dX0_isBooked_8 (by decide) ?_
    refine lv_goto (tgt := 13) hx hb dX0_isBooked_9 (by decide) ?_
    exact W.zret (v := 1) hx hb hr rfl (fun t ht hW9 => ⟨_, rfl, Or.inl ⟨c_5, rfl⟩, ht⟩) (fun _ h => nomatch h) dX0_isBooked_13
set_option maxHeartbeats 4000000 in
set_option maxRecDepth 100000 in
theorem ct_X0_bookedOrZero (l : Launch) (G : ck_G) (H : Heap) (ad : Nat → Nat) (N : Nat → Prop) (F : Nat → va_E) (hW : ck_W G ad N F H) (i : Nat) (hN : N i) (v0 v1 v2 v3 v4 v5 v6 v7 : Int32) (hF : F i = .inr (0, [.int v0, .int v1, .int v2, .int v3, .int v4, .int v5, .int v6, .int v7])) : Met l yX0_bookedOrZero wsX0_bookedOrZero ({ frames := 1, cells := 0, slots := 0, locals := 20 }) (ck_P G H [.ref (ad i)]) (vp_Si (fun r => r = ck_bk v6)) 0 0 (fun _ => False) := by
  refine Met.ofW (cc := cX0_bookedOrZero) (maxL := 1) (ret := (some .int)) (by decide) rfl ?_
  intro p e s m args below meth c s₁ B hml hv
  obtain ⟨rfl, hH, hKK⟩ := hv
  subst hH
  have hx := B.exec
  have hb := B.bytes
  have hr := B.returns
  have hts := atoms_spec (ws := wsX0_bookedOrZero) B.pre
  have hown : s.vm.findClass RX0 = some m.cls := findClass_of_methodNamed B.named
  have hlocks := B.notSynchronized
  have hKK0 := hKK
  have hK := hKK.1.1
  have hinX0 : ∀ w ∈ u_ws RX0 TX0 8, w ∈ wsX0_bookedOrZero := by decide +kernel
  have hl := lv_entry ([.ref (ad i)]) (n := 1) (Nat.le_of_ble_eq_true rfl)
  rw [lg_entry_eq]
  generalize (lg_sl ([.ref (ad i)]) ++ List.replicate (1 - (lg_sl ([.ref (ad i)])).length) Slot.unset).toArray = ls at hl ⊢
  have hl : lv_has ls 1 [(0, .ref (ad i))] := hl
  refine lv_aload_n hx hb dX0_bookedOrZero_0 rfl (lv_at hl 0 rfl) ?_
  refine ck_cVi (As := []) (rest := []) ⟨hx, hb, hml, hown, hts⟩ hKK (ct_X0_isBooked l G s.heap ad N F hW i hN v0 v1 v2 v3 v4 v5 v6 v7 hF) (cwV 0 hts gX0_bookedOrZero_X0_isBooked rfl rfl rfl (by decide +kernel) ⟨Nat.le_of_ble_eq_true rfl, Nat.le_of_ble_eq_true rfl⟩) (ck_recv hK hW hN hF rfl) rfl hl rfl (Nat.le_of_ble_eq_true rfl) dX0_bookedOrZero_1 ⟨Nat.le_of_ble_eq_true rfl, Nat.le_of_ble_eq_true rfl⟩ (fun r_1 h_1 => ?_)
  rcases h_1 with ⟨h_1, rfl⟩ | ⟨h_1, rfl⟩
  · skip
    refine lv_if_eq (tgt := 14) hx hb dX0_bookedOrZero_4 (by decide) (fun c_4 => absurd c_4 (by decide)) (fun _ => ?_)
    refine lv_aload_n hx hb dX0_bookedOrZero_7 rfl (lv_at hl 0 rfl) ?_
    refine ck_get (v := .int v6) hx hb hts hinX0 hown hK hW hN hF rfl 6 (by decide) (hts _ (List.mem_of_getElem? (i := 1) rfl)) rfl rfl dX0_bookedOrZero_8 ?_
    refine lv_goto (tgt := 15) hx hb dX0_bookedOrZero_11 (by decide) ?_
    exact W.iret (v := v6) hx hb hr (fun t ht hW9 => ⟨_, rfl, (by simp [ck_bk, h_1]), ht⟩) (fun _ h => nomatch h) dX0_bookedOrZero_15
  · skip
    refine lv_if_eq (tgt := 14) hx hb dX0_bookedOrZero_4 (by decide) (fun _ => ?_) (fun c_4 => absurd (by decide) c_4)
    refine lv_iconst (v := 0) hx hb dX0_bookedOrZero_14 (by decide) ?_
    exact W.iret (v := 0) hx hb hr (fun t ht hW9 => ⟨_, rfl, (by simp [ck_bk, Decidable.not_not.mp h_1]), ht⟩) (fun _ h => nomatch h) dX0_bookedOrZero_15
set_option maxHeartbeats 4000000 in
set_option maxRecDepth 100000 in
theorem ct_X0_disputed (l : Launch) (G : ck_G) (H : Heap) (ad : Nat → Nat) (N : Nat → Prop) (F : Nat → va_E) (hW : ck_W G ad N F H) (i : Nat) (hN : N i) (v0 v1 v2 v3 v4 v5 v6 v7 : Int32) (hF : F i = .inr (0, [.int v0, .int v1, .int v2, .int v3, .int v4, .int v5, .int v6, .int v7])) : Met l yX0_disputed wsX0_disputed ({ frames := 2, cells := 0, slots := 0, locals := 40 }) (ck_P G H [.ref (ad i)]) (vp_Si (fun r => r = v7 - ck_bk v6)) 0 0 (fun _ => False) := by
  refine Met.ofW (cc := cX0_disputed) (maxL := 1) (ret := (some .int)) (by decide) rfl ?_
  intro p e s m args below meth c s₁ B hml hv
  obtain ⟨rfl, hH, hKK⟩ := hv
  subst hH
  have hx := B.exec
  have hb := B.bytes
  have hr := B.returns
  have hts := atoms_spec (ws := wsX0_disputed) B.pre
  have hown : s.vm.findClass RX0 = some m.cls := findClass_of_methodNamed B.named
  have hlocks := B.notSynchronized
  have hKK0 := hKK
  have hK := hKK.1.1
  have hinX0 : ∀ w ∈ u_ws RX0 TX0 8, w ∈ wsX0_disputed := by decide +kernel
  have hl := lv_entry ([.ref (ad i)]) (n := 1) (Nat.le_of_ble_eq_true rfl)
  rw [lg_entry_eq]
  generalize (lg_sl ([.ref (ad i)]) ++ List.replicate (1 - (lg_sl ([.ref (ad i)])).length) Slot.unset).toArray = ls at hl ⊢
  have hl : lv_has ls 1 [(0, .ref (ad i))] := hl
  refine lv_aload_n hx hb dX0_disputed_0 rfl (lv_at hl 0 rfl) ?_
  refine ck_get (v := .int v7) hx hb hts hinX0 hown hK hW hN hF rfl 7 (by decide) (hts _ (List.mem_of_getElem? (i := 1) rfl)) rfl rfl dX0_disputed_1 ?_
  refine lv_aload_n hx hb dX0_disputed_4 rfl (lv_at hl 0 rfl) ?_
  refine ck_cVi (As := []) (rest := [.int v7]) ⟨hx, hb, hml, hown, hts⟩ hKK (ct_X0_bookedOrZero l G s.heap ad N F hW i hN v0 v1 v2 v3 v4 v5 v6 v7 hF) (cwV 0 hts gX0_disputed_X0_bookedOrZero rfl rfl rfl (by decide +kernel) ⟨Nat.le_of_ble_eq_true rfl, Nat.le_of_ble_eq_true rfl⟩) (ck_recv hK hW hN hF rfl) rfl hl rfl (Nat.le_of_ble_eq_true rfl) dX0_disputed_5 ⟨Nat.le_of_ble_eq_true rfl, Nat.le_of_ble_eq_true rfl⟩ (fun r_5 h_5 => ?_)
  subst h_5
  refine lv_isub hx hb dX0_disputed_8 ?_
  exact W.iret (v := (v7 - ((ck_bk v6)))) hx hb hr (fun t ht hW9 => ⟨_, rfl, rfl, ht⟩) (fun _ h => nomatch h) dX0_disputed_9
def ck_leg (b q : Int32) : Int32 := b ||| ((1 : Int32) <<< (q &&& 31))
def ck_max (a b : Int32) : Int32 := if a < b then b else a
def ck_min (a b : Int32) : Int32 := if b < a then b else a
theorem ck_W.eq {G : ck_G} {ad : Nat → Nat} {N : Nat → Prop} {F F1 : Nat → va_E} {H : Heap} (h : ck_W G ad N F H) (e : F = F1) : ck_W G ad N F1 H := e ▸ h
theorem ck_up2 {α : Type} (f : Nat → α) (k : Nat) (v w : α) : va_up (va_up f k v) k w = va_up f k w := by
  funext j; by_cases h : j = k <;> simp [va_up, h]
set_option maxHeartbeats 4000000 in
set_option maxRecDepth 100000 in
theorem ct_X0_addLeg (l : Launch) (G : ck_G) (H : Heap) (ad : Nat → Nat) (N : Nat → Prop) (F : Nat → va_E) (hW : ck_W G ad N F H) (i : Nat) (hN : N i) (v0 v1 v2 v3 v4 v5 v6 v7 : Int32) (hF : F i = .inr (0, [.int v0, .int v1, .int v2, .int v3, .int v4, .int v5, .int v6, .int v7])) (a0 a1 : Int32) : Met l yX0_addLeg wsX0_addLeg ({ frames := 1, cells := 0, slots := 0, locals := 21 }) (ck_P G H [.ref (ad i), .int a0, .int a1]) (ck_Qv G (fun H1 => ck_W G ad N (va_up F i (.inr (0, [.int v0, .int v1, .int v2, .int v3, .int (ck_leg v4 a0), .int (ck_max v5 a1), .int v6, .int v7]))) H1)) 0 0 (ck_A G) := by
  refine Met.ofW (cc := cX0_addLeg) (maxL := 3) (ret := none) (by decide) rfl ?_
  intro p e s m args below meth c s₁ B hml hv
  obtain ⟨rfl, hH, hKK⟩ := hv
  subst hH
  have hx := B.exec
  have hb := B.bytes
  have hr := B.returns
  have hts := atoms_spec (ws := wsX0_addLeg) B.pre
  have hown : s.vm.findClass RX0 = some m.cls := findClass_of_methodNamed B.named
  have hlocks := B.notSynchronized
  have hKK0 := hKK
  have hK := hKK.1.1
  have hS : va_S (ck_A G) s.heap s.heap [] := va_S.rf
  have hinX0 : ∀ w ∈ u_ws RX0 TX0 8, w ∈ wsX0_addLeg := by decide +kernel
  have hl := lv_entry ([.ref (ad i), .int a0, .int a1]) (n := 3) (Nat.le_of_ble_eq_true rfl)
  rw [lg_entry_eq]
  generalize (lg_sl ([.ref (ad i), .int a0, .int a1]) ++ List.replicate (3 - (lg_sl ([.ref (ad i), .int a0, .int a1])).length) Slot.unset).toArray = ls at hl ⊢
  have hl : lv_has ls 3 [(0, .ref (ad i)), (1, .int a0), (2, .int a1)] := hl
  refine lv_aload_n hx hb dX0_addLeg_0 rfl (lv_at hl 0 rfl) ?_
  refine lv_dup hx hb dX0_addLeg_1 rfl ?_
  refine ck_get (v := .int v4) hx hb hts hinX0 hown hK hW hN hF rfl 4 (by decide) (hts _ (List.mem_of_getElem? (i := 1) rfl)) rfl rfl dX0_addLeg_2 ?_
  refine lv_iconst (v := 1) hx hb dX0_addLeg_5 (by decide) ?_
  refine lv_iload_n hx hb dX0_addLeg_6 rfl (lv_at hl 1 rfl) ?_
  refine lv_ishl hx hb dX0_addLeg_7 ?_
  refine lv_ior hx hb dX0_addLeg_8 ?_
  refine ck_put (v := .int (v4 ||| ((1 <<< (a0 &&& 31))))) (ty := .int) hx hb hts hinX0 tyX0 tyX0_ok nmX0 hown hK hW hS hN hF rfl 4 (by decide) (hts _ (List.mem_of_getElem? (i := 1) rfl)) rfl rfl (by decide +kernel) rfl rfl (Nat.le_of_ble_eq_true rfl) dX0_addLeg_9 (fun H locs hW hS hz9 => ?_)
  have hFI9 := va_up_self F i (.inr (0, [.int v0, .int v1, .int v2, .int v3, .int (v4 ||| ((1 <<< (a0 &&& 31)))), .int v5, .int v6, .int v7]))
  have hKK := hKK0.keep hS.2.1
  refine lv_aload_n hx hb dX0_addLeg_12 rfl (lv_at hl 0 rfl) ?_
  refine lv_aload_n hx hb dX0_addLeg_13 rfl (lv_at hl 0 rfl) ?_
  refine ck_get (v := .int v5) hx hb hts hinX0 hown hK hW hN hFI9 rfl 5 (by decide) (hts _ (List.mem_of_getElem? (i := 2) rfl)) rfl rfl dX0_addLeg_14 ?_
  refine lv_iload_n hx hb dX0_addLeg_17 rfl (lv_at hl 2 rfl) ?_
  refine va_mmax hx hb (hml.trans hl.1.symm) hown (hts _ (List.mem_of_getElem? (i := 3) rfl)) (hts _ (List.mem_of_getElem? (i := 4) rfl)) (hts _ (List.mem_of_getElem? (i := 5) rfl)) (hts _ (List.mem_of_getElem? (i := 6) rfl)) (Nat.le_of_ble_eq_true rfl) (Nat.le_of_ble_eq_true rfl) (Nat.le_of_ble_eq_true rfl) (Nat.le_of_ble_eq_true rfl) dX0_addLeg_18 ?_
  refine ck_put (v := .int (if v5 < a1 then a1 else v5)) (ty := .int) hx hb hts hinX0 tyX0 tyX0_ok nmX0 hown hK hW hS hN hFI9 rfl 5 (by decide) (hts _ (List.mem_of_getElem? (i := 2) rfl)) rfl rfl (by decide +kernel) rfl rfl (Nat.le_of_ble_eq_true rfl) dX0_addLeg_21 (fun H locs hW hS hz21 => ?_)
  have hFI21 := va_up_self (va_up F i (.inr (0, [.int v0, .int v1, .int v2, .int v3, .int (v4 ||| ((1 <<< (a0 &&& 31)))), .int v5, .int v6, .int v7]))) i (.inr (0, [.int v0, .int v1, .int v2, .int v3, .int (v4 ||| ((1 <<< (a0 &&& 31)))), .int (if v5 < a1 then a1 else v5), .int v6, .int v7]))
  have hKK := hKK0.keep hS.2.1
  exact W.vret hx hb hr (fun t ht hW9 => ⟨⟨rfl, by rw [ht]; exact hW.eq (ck_up2 _ _ _ _)⟩, hS.F ht⟩) hS.2.2 dX0_addLeg_24
def ck_chg (len price step least fee : Int32) : Int32 := fee + ck_up (price * ck_max (ck_up len step * step) least) 60
def ck_bef (i q d i' q' d' : Int32) : Prop := if q = q' then (if d = d' then i' < i else d' < d) else q' < q
set_option maxHeartbeats 4000000 in
set_option maxRecDepth 100000 in
theorem ct_X2_chargeFor (l : Launch) (G : ck_G) (H : Heap) (ad : Nat → Nat) (N : Nat → Prop) (F : Nat → va_E) (hW : ck_W G ad N F H) (i : Nat) (hN : N i) (r0 r1 r2 r3 r4 r5 r6 : Int32) (hF : F i = .inr (2, [.int r0, .int r1, .int r2, .int r3, .int r4, .int r5, .int r6])) (a0 : Int32) : Met l yX2_chargeFor wsX2_chargeFor ({ frames := 1, cells := 0, slots := 0, locals := 21 }) (ck_P G H [.ref (ad i), .int a0]) (vp_Si (fun r => r = ck_chg a0 r3 r4 r5 r6)) 0 0 (fun _ => False) := by
  refine Met.ofW (cc := cX2_chargeFor) (maxL := 3) (ret := (some .int)) (by decide) rfl ?_
  intro p e s m args below meth c s₁ B hml hv
  obtain ⟨rfl, hH, hKK⟩ := hv
  subst hH
  have hx := B.exec
  have hb := B.bytes
  have hr := B.returns
  have hts := atoms_spec (ws := wsX2_chargeFor) B.pre
  have hown : s.vm.findClass RX2 = some m.cls := findClass_of_methodNamed B.named
  have hlocks := B.notSynchronized
  have hKK0 := hKK
  have hK := hKK.1.1
  have hinX2 : ∀ w ∈ u_ws RX2 TX2 7, w ∈ wsX2_chargeFor := by decide +kernel
  have hl := lv_entry ([.ref (ad i), .int a0]) (n := 3) (Nat.le_of_ble_eq_true rfl)
  rw [lg_entry_eq]
  generalize (lg_sl ([.ref (ad i), .int a0]) ++ List.replicate (3 - (lg_sl ([.ref (ad i), .int a0])).length) Slot.unset).toArray = ls at hl ⊢
  have hl : lv_has ls 3 [(0, .ref (ad i)), (1, .int a0)] := hl
  refine lv_iload_n hx hb dX2_chargeFor_0 rfl (lv_at hl 1 rfl) ?_
  refine lv_aload_n hx hb dX2_chargeFor_1 rfl (lv_at hl 0 rfl) ?_
  refine ck_get (v := .int r4) hx hb hts hinX2 hown hK hW hN hF rfl 4 (by decide) (hts _ (List.mem_of_getElem? (i := 1) rfl)) rfl rfl dX2_chargeFor_2 ?_
  refine ck_cSi (As := [.int a0, .int r4]) (rest := []) ⟨hx, hb, hml, hown, hts⟩ hKK (ct_X2_quotientUp l G s.heap a0 r4) (va_cwS 2 hts gX2_chargeFor_X2_quotientUp rfl rfl rfl (by decide +kernel) ⟨Nat.le_of_ble_eq_true rfl, Nat.le_of_ble_eq_true rfl⟩) rfl hl rfl (Nat.le_of_ble_eq_true rfl) dX2_chargeFor_5 ⟨Nat.le_of_ble_eq_true rfl, Nat.le_of_ble_eq_true rfl⟩ (fun r_5 h_5 => ?_)
  subst h_5
  refine lv_aload_n hx hb dX2_chargeFor_8 rfl (lv_at hl 0 rfl) ?_
  refine ck_get (v := .int r4) hx hb hts hinX2 hown hK hW hN hF rfl 4 (by decide) (hts _ (List.mem_of_getElem? (i := 1) rfl)) rfl rfl dX2_chargeFor_9 ?_
  refine lv_imul hx hb dX2_chargeFor_12 ?_
  refine lv_aload_n hx hb dX2_chargeFor_13 rfl (lv_at hl 0 rfl) ?_
  refine ck_get (v := .int r5) hx hb hts hinX2 hown hK hW hN hF rfl 5 (by decide) (hts _ (List.mem_of_getElem? (i := 2) rfl)) rfl rfl dX2_chargeFor_14 ?_
  refine va_mmax hx hb (hml.trans hl.1.symm) hown (hts _ (List.mem_of_getElem? (i := 3) rfl)) (hts _ (List.mem_of_getElem? (i := 4) rfl)) (hts _ (List.mem_of_getElem? (i := 5) rfl)) (hts _ (List.mem_of_getElem? (i := 6) rfl)) (Nat.le_of_ble_eq_true rfl) (Nat.le_of_ble_eq_true rfl) (Nat.le_of_ble_eq_true rfl) (Nat.le_of_ble_eq_true rfl) dX2_chargeFor_17 ?_
  refine lv_istore_n (lv' := [(2, .int (if (((ck_up a0 r4)) * r4) < r5 then r5 else (((ck_up a0 r4)) * r4))), (0, .ref (ad i)), (1, .int a0)]) hx hb dX2_chargeFor_20 rfl hl (by decide) rfl (fun ls hl => ?_)
  refine lv_aload_n hx hb dX2_chargeFor_21 rfl (lv_at hl 1 rfl) ?_
  refine ck_get (v := .int r6) hx hb hts hinX2 hown hK hW hN hF rfl 6 (by decide) (hts _ (List.mem_of_getElem? (i := 7) rfl)) rfl rfl dX2_chargeFor_22 ?_
  refine lv_aload_n hx hb dX2_chargeFor_25 rfl (lv_at hl 1 rfl) ?_
  refine ck_get (v := .int r3) hx hb hts hinX2 hown hK hW hN hF rfl 3 (by decide) (hts _ (List.mem_of_getElem? (i := 8) rfl)) rfl rfl dX2_chargeFor_26 ?_
  refine lv_iload_n hx hb dX2_chargeFor_29 rfl (lv_at hl 0 rfl) ?_
  refine lv_imul hx hb dX2_chargeFor_30 ?_
  refine lv_bipush (v := 60) hx hb dX2_chargeFor_31 (by decide) ?_
  refine ck_cSi (As := [.int (r3 * ((if (((ck_up a0 r4)) * r4) < r5 then r5 else (((ck_up a0 r4)) * r4)))), .int 60]) (rest := [.int r6]) ⟨hx, hb, hml, hown, hts⟩ hKK (ct_X2_quotientUp l G s.heap ((r3 * ((if (((ck_up a0 r4)) * r4) < r5 then r5 else (((ck_up a0 r4)) * r4))))) 60) (va_cwS 2 hts gX2_chargeFor_X2_quotientUp rfl rfl rfl (by decide +kernel) ⟨Nat.le_of_ble_eq_true rfl, Nat.le_of_ble_eq_true rfl⟩) rfl hl rfl (Nat.le_of_ble_eq_true rfl) dX2_chargeFor_33 ⟨Nat.le_of_ble_eq_true rfl, Nat.le_of_ble_eq_true rfl⟩ (fun r_33 h_33 => ?_)
  subst h_33
  refine lv_iadd hx hb dX2_chargeFor_36 ?_
  exact W.iret (v := (r6 + ((ck_up ((r3 * ((if (((ck_up a0 r4)) * r4) < r5 then r5 else (((ck_up a0 r4)) * r4))))) 60)))) hx hb hr (fun t ht hW9 => ⟨_, rfl, rfl, ht⟩) (fun _ h => nomatch h) dX2_chargeFor_37
set_option maxHeartbeats 4000000 in
set_option maxRecDepth 100000 in
theorem ct_X2_goesBefore (l : Launch) (G : ck_G) (H : Heap) (ad : Nat → Nat) (N : Nat → Prop) (F : Nat → va_E) (hW : ck_W G ad N F H) (i : Nat) (hN : N i) (r0 r1 r2 r3 r4 r5 r6 : Int32) (hF : F i = .inr (2, [.int r0, .int r1, .int r2, .int r3, .int r4, .int r5, .int r6])) (j : Nat) (hNj : N j) (u0 u1 u2 u3 u4 u5 u6 : Int32) (hFj : F j = .inr (2, [.int u0, .int u1, .int u2, .int u3, .int u4, .int u5, .int u6])) : Met l yX2_goesBefore wsX2_goesBefore ({ frames := 0, cells := 0, slots := 0, locals := 0 }) (ck_P G H [.ref (ad i), .ref (ad j)]) (vp_Si (fun r => ck_b (ck_bef r0 r1 r2 u0 u1 u2) r)) 0 0 (fun _ => False) := by
  refine Met.ofW (cc := cX2_goesBefore) (maxL := 2) (ret := (some .boolean)) (by decide) rfl ?_
  intro p e s m args below meth c s₁ B hml hv
  obtain ⟨rfl, hH, hKK⟩ := hv
  subst hH
  have hx := B.exec
  have hb := B.bytes
  have hr := B.returns
  have hts := atoms_spec (ws := wsX2_goesBefore) B.pre
  have hown : s.vm.findClass RX2 = some m.cls := findClass_of_methodNamed B.named
  have hlocks := B.notSynchronized
  have hKK0 := hKK
  have hK := hKK.1.1
  have hinX2 : ∀ w ∈ u_ws RX2 TX2 7, w ∈ wsX2_goesBefore := by decide +kernel
  have hl := lv_entry ([.ref (ad i), .ref (ad j)]) (n := 2) (Nat.le_of_ble_eq_true rfl)
  rw [lg_entry_eq]
  generalize (lg_sl ([.ref (ad i), .ref (ad j)]) ++ List.replicate (2 - (lg_sl ([.ref (ad i), .ref (ad j)])).length) Slot.unset).toArray = ls at hl ⊢
  have hl : lv_has ls 2 [(0, .ref (ad i)), (1, .ref (ad j))] := hl
  refine lv_aload_n hx hb dX2_goesBefore_0 rfl (lv_at hl 0 rfl) ?_
  refine ck_get (v := .int r1) hx hb hts hinX2 hown hK hW hN hF rfl 1 (by decide) (hts _ (List.mem_of_getElem? (i := 1) rfl)) rfl rfl dX2_goesBefore_1 ?_
  refine lv_aload_n hx hb dX2_goesBefore_4 rfl (lv_at hl 1 rfl) ?_
  refine ck_get (v := .int u1) hx hb hts hinX2 hown hK hW hNj hFj rfl 1 (by decide) (hts _ (List.mem_of_getElem? (i := 1) rfl)) rfl rfl dX2_goesBefore_5 ?_
  refine lv_icmp_eq (tgt := 28) hx hb dX2_goesBefore_8 (by decide) (fun c_8 => ?_) (fun c_8 => ?_)
  · skip
    refine lv_aload_n hx hb dX2_goesBefore_28 rfl (lv_at hl 0 rfl) ?_
    refine ck_get (v := .int r2) hx hb hts hinX2 hown hK hW hN hF rfl 2 (by decide) (hts _ (List.mem_of_getElem? (i := 2) rfl)) rfl rfl dX2_goesBefore_29 ?_
    refine lv_aload_n hx hb dX2_goesBefore_32 rfl (lv_at hl 1 rfl) ?_
    refine ck_get (v := .int u2) hx hb hts hinX2 hown hK hW hNj hFj rfl 2 (by decide) (hts _ (List.mem_of_getElem? (i := 2) rfl)) rfl rfl dX2_goesBefore_33 ?_
    refine lv_icmp_eq (tgt := 58) hx hb dX2_goesBefore_36 (by decide) (fun c_36 => ?_) (fun c_36 => ?_)
    · skip
      refine lv_aload_n hx hb dX2_goesBefore_58 rfl (lv_at hl 0 rfl) ?_
      refine ck_get (v := .int r0) hx hb hts hinX2 hown hK hW hN hF rfl 0 (by decide) (hts _ (List.mem_of_getElem? (i := 3) rfl)) rfl rfl dX2_goesBefore_59 ?_
      refine lv_aload_n hx hb dX2_goesBefore_62 rfl (lv_at hl 1 rfl) ?_
      refine ck_get (v := .int u0) hx hb hts hinX2 hown hK hW hNj hFj rfl 0 (by decide) (hts _ (List.mem_of_getElem? (i := 3) rfl)) rfl rfl dX2_goesBefore_63 ?_
      refine lv_icmp_le (tgt := 73) hx hb dX2_goesBefore_66 (by decide) (fun c_66 => ?_) (fun c_66 => ?_)
      · skip
        refine lv_iconst (v := 0) hx hb dX2_goesBefore_73 (by decide) ?_
        exact W.zret (v := 0) hx hb hr rfl (fun t ht hW9 => ⟨_, rfl, Or.inr ⟨by unfold ck_bef; rw [if_pos c_8, if_pos c_36]; exact Int32.not_lt.mpr c_66, rfl⟩, ht⟩) (fun _ h => nomatch h) dX2_goesBefore_74
      · skip
        refine lv_iconst (v := 1) hx hb dX2_goesBefore_69 (by decide) ?_
        refine lv_goto (tgt := 74) hx hb dX2_goesBefore_70 (by decide) ?_
        exact W.zret (v := 1) hx hb hr rfl (fun t ht hW9 => ⟨_, rfl, Or.inl ⟨by unfold ck_bef; rw [if_pos c_8, if_pos c_36]; exact Int32.not_le.mp c_66, rfl⟩, ht⟩) (fun _ h => nomatch h) dX2_goesBefore_74
    · skip
      refine lv_aload_n hx hb dX2_goesBefore_39 rfl (lv_at hl 0 rfl) ?_
      refine ck_get (v := .int r2) hx hb hts hinX2 hown hK hW hN hF rfl 2 (by decide) (hts _ (List.mem_of_getElem? (i := 2) rfl)) rfl rfl dX2_goesBefore_40 ?_
      refine lv_aload_n hx hb dX2_goesBefore_43 rfl (lv_at hl 1 rfl) ?_
      refine ck_get (v := .int u2) hx hb hts hinX2 hown hK hW hNj hFj rfl 2 (by decide) (hts _ (List.mem_of_getElem? (i := 2) rfl)) rfl rfl dX2_goesBefore_44 ?_
      refine lv_icmp_le (tgt := 54) hx hb dX2_goesBefore_47 (by decide) (fun c_47 => ?_) (fun c_47 => ?_)
      · skip
        refine lv_iconst (v := 0) hx hb dX2_goesBefore_54 (by decide) ?_
        refine lv_goto (tgt := 74) hx hb dX2_goesBefore_55 (by decide) ?_
        exact W.zret (v := 0) hx hb hr rfl (fun t ht hW9 => ⟨_, rfl, Or.inr ⟨by unfold ck_bef; rw [if_pos c_8, if_neg c_36]; exact Int32.not_lt.mpr c_47, rfl⟩, ht⟩) (fun _ h => nomatch h) dX2_goesBefore_74
      · skip
        refine lv_iconst (v := 1) hx hb dX2_goesBefore_50 (by decide) ?_
        refine lv_goto (tgt := 74) hx hb dX2_goesBefore_51 (by decide) ?_
        exact W.zret (v := 1) hx hb hr rfl (fun t ht hW9 => ⟨_, rfl, Or.inl ⟨by unfold ck_bef; rw [if_pos c_8, if_neg c_36]; exact Int32.not_le.mp c_47, rfl⟩, ht⟩) (fun _ h => nomatch h) dX2_goesBefore_74
  · skip
    refine lv_aload_n hx hb dX2_goesBefore_11 rfl (lv_at hl 0 rfl) ?_
    refine ck_get (v := .int r1) hx hb hts hinX2 hown hK hW hN hF rfl 1 (by decide) (hts _ (List.mem_of_getElem? (i := 1) rfl)) rfl rfl dX2_goesBefore_12 ?_
    refine lv_aload_n hx hb dX2_goesBefore_15 rfl (lv_at hl 1 rfl) ?_
    refine ck_get (v := .int u1) hx hb hts hinX2 hown hK hW hNj hFj rfl 1 (by decide) (hts _ (List.mem_of_getElem? (i := 1) rfl)) rfl rfl dX2_goesBefore_16 ?_
    refine lv_icmp_le (tgt := 26) hx hb dX2_goesBefore_19 (by decide) (fun c_19 => ?_) (fun c_19 => ?_)
    · skip
      refine lv_iconst (v := 0) hx hb dX2_goesBefore_26 (by decide) ?_
      exact W.zret (v := 0) hx hb hr rfl (fun t ht hW9 => ⟨_, rfl, Or.inr ⟨by unfold ck_bef; rw [if_neg c_8]; exact Int32.not_lt.mpr c_19, rfl⟩, ht⟩) (fun _ h => nomatch h) dX2_goesBefore_27
    · skip
      refine lv_iconst (v := 1) hx hb dX2_goesBefore_22 (by decide) ?_
      refine lv_goto (tgt := 27) hx hb dX2_goesBefore_23 (by decide) ?_
      exact W.zret (v := 1) hx hb hr rfl (fun t ht hW9 => ⟨_, rfl, Or.inl ⟨by unfold ck_bef; rw [if_neg c_8]; exact Int32.not_le.mp c_19, rfl⟩, ht⟩) (fun _ h => nomatch h) dX2_goesBefore_27
def ck_miss (n lo hi : Int32) : Int32 := if n = 0 then 0 else hi - lo + 1 - n
theorem ck_cmp0 (x : Int64) : lg_cmp x 0 = 0 ↔ x = 0 := by
  unfold lg_cmp
  by_cases h2 : x = 0
  · subst h2; decide
  · by_cases h1 : x < 0
    · simp [h1, h2]
      try (by_cases h3 : 0 < x <;> simp [h3])
    · simp [h1, h2]
      try (by_cases h3 : 0 < x <;> simp [h3])
set_option maxHeartbeats 4000000 in
set_option maxRecDepth 100000 in
theorem ct_X3_missing (l : Launch) (G : ck_G) (H : Heap) (ad : Nat → Nat) (N : Nat → Prop) (F : Nat → va_E) (hW : ck_W G ad N F H) (i : Nat) (hN : N i) (j : Nat) (v1 v2 v3 v4 : Int32) (hF : F i = .inr (3, [.ref (ad j), .int v1, .int v2, .int v3, .int v4])) : Met l yX3_missing wsX3_missing ({ frames := 0, cells := 0, slots := 0, locals := 0 }) (ck_P G H [.ref (ad i)]) (vp_Si (fun r => r = ck_miss v1 v2 v3)) 0 0 (fun _ => False) := by
  refine Met.ofW (cc := cX3_missing) (maxL := 1) (ret := (some .int)) (by decide) rfl ?_
  intro p e s m args below meth c s₁ B hml hv
  obtain ⟨rfl, hH, hKK⟩ := hv
  subst hH
  have hx := B.exec
  have hb := B.bytes
  have hr := B.returns
  have hts := atoms_spec (ws := wsX3_missing) B.pre
  have hown : s.vm.findClass RX3 = some m.cls := findClass_of_methodNamed B.named
  have hlocks := B.notSynchronized
  have hKK0 := hKK
  have hK := hKK.1.1
  have hinX3 : ∀ w ∈ u_ws RX3 TX3 5, w ∈ wsX3_missing := by decide +kernel
  have hl := lv_entry ([.ref (ad i)]) (n := 1) (Nat.le_of_ble_eq_true rfl)
  rw [lg_entry_eq]
  generalize (lg_sl ([.ref (ad i)]) ++ List.replicate (1 - (lg_sl ([.ref (ad i)])).length) Slot.unset).toArray = ls at hl ⊢
  have hl : lv_has ls 1 [(0, .ref (ad i))] := hl
  refine lv_aload_n hx hb dX3_missing_0 rfl (lv_at hl 0 rfl) ?_
  refine ck_get (v := .int v1) hx hb hts hinX3 hown hK hW hN hF rfl 1 (by decide) (hts _ (List.mem_of_getElem? (i := 1) rfl)) rfl rfl dX3_missing_1 ?_
  refine lv_if_ne (tgt := 11) hx hb dX3_missing_4 (by decide) (fun c_4 => ?_) (fun c_4 => ?_)
  · skip
    refine lv_aload_n hx hb dX3_missing_11 rfl (lv_at hl 0 rfl) ?_
    refine ck_get (v := .int v3) hx hb hts hinX3 hown hK hW hN hF rfl 3 (by decide) (hts _ (List.mem_of_getElem? (i := 2) rfl)) rfl rfl dX3_missing_12 ?_
    refine lv_aload_n hx hb dX3_missing_15 rfl (lv_at hl 0 rfl) ?_
    refine ck_get (v := .int v2) hx hb hts hinX3 hown hK hW hN hF rfl 2 (by decide) (hts _ (List.mem_of_getElem? (i := 3) rfl)) rfl rfl dX3_missing_16 ?_
    refine lv_isub hx hb dX3_missing_19 ?_
    refine lv_iconst (v := 1) hx hb dX3_missing_20 (by decide) ?_
    refine lv_iadd hx hb dX3_missing_21 ?_
    refine lv_aload_n hx hb dX3_missing_22 rfl (lv_at hl 0 rfl) ?_
    refine ck_get (v := .int v1) hx hb hts hinX3 hown hK hW hN hF rfl 1 (by decide) (hts _ (List.mem_of_getElem? (i := 1) rfl)) rfl rfl dX3_missing_23 ?_
    refine lv_isub hx hb dX3_missing_26 ?_
    exact W.iret (v := (((((v3 - v2)) + 1)) - v1)) hx hb hr (fun t ht hW9 => ⟨_, rfl, (by simp [ck_miss, c_4]), ht⟩) (fun _ h => nomatch h) dX3_missing_27
  · skip
    refine lv_iconst (v := 0) hx hb dX3_missing_7 (by decide) ?_
    refine lv_goto (tgt := 27) hx hb dX3_missing_8 (by decide) ?_
    exact W.iret (v := 0) hx hb hr (fun t ht hW9 => ⟨_, rfl, (by simp [ck_miss, c_4]), ht⟩) (fun _ h => nomatch h) dX3_missing_27
set_option maxHeartbeats 4000000 in
set_option maxRecDepth 100000 in
theorem ct_X3_has (l : Launch) (G : ck_G) (H : Heap) (ad : Nat → Nat) (N : Nat → Prop) (F : Nat → va_E) (hW : ck_W G ad N F H) (i : Nat) (hN : N i) (j : Nat) (v1 v2 v3 v4 : Int32) (hF : F i = .inr (3, [.ref (ad j), .int v1, .int v2, .int v3, .int v4])) (hNj : N j) (w : Nat → Int64) (hFj : F j = .inl (G.2.1 1, 157, .inr (.inl w))) (q : Nat) (hq : q < 10000) : Met l yX3_has wsX3_has ({ frames := 1, cells := 0, slots := 0, locals := 20 }) (ck_P G H [.ref (ad i), .int (nI q)]) (vp_Si (fun r => ck_b (¬ (w (q / 64) &&& ck_bit (nI q)) = 0) r)) 0 0 (fun _ => False) := by
  refine Met.ofW (cc := cX3_has) (maxL := 3) (ret := (some .boolean)) (by decide) rfl ?_
  intro p e s m args below meth c s₁ B hml hv
  obtain ⟨rfl, hH, hKK⟩ := hv
  subst hH
  have hx := B.exec
  have hb := B.bytes
  have hr := B.returns
  have hts := atoms_spec (ws := wsX3_has) B.pre
  have hown : s.vm.findClass RX3 = some m.cls := findClass_of_methodNamed B.named
  have hlocks := B.notSynchronized
  have hKK0 := hKK
  have hK := hKK.1.1
  have hinX3 : ∀ w ∈ u_ws RX3 TX3 5, w ∈ wsX3_has := by decide +kernel
  have hl := lv_entry ([.ref (ad i), .int (nI q)]) (n := 3) (Nat.le_of_ble_eq_true rfl)
  rw [lg_entry_eq]
  generalize (lg_sl ([.ref (ad i), .int (nI q)]) ++ List.replicate (3 - (lg_sl ([.ref (ad i), .int (nI q)])).length) Slot.unset).toArray = ls at hl ⊢
  have hl : lv_has ls 3 [(0, .ref (ad i)), (1, .int (nI q))] := hl
  have hq64 : nI q / 64 = nI (q / 64) := pk_div (by omega) (by decide) (by decide)
  refine lv_iload_n hx hb dX3_has_0 rfl (lv_at hl 1 rfl) ?_
  refine lv_bipush (v := 64) hx hb dX3_has_1 (by decide) ?_
  refine lv_idiv hx hb dX3_has_3 (by decide) ?_
  refine lv_istore_n (lv' := [(2, .int (((nI q)) / 64)), (0, .ref (ad i)), (1, .int (nI q))]) hx hb dX3_has_4 rfl hl (by decide) rfl (fun ls hl => ?_)
  refine lv_iload_n hx hb dX3_has_5 rfl (lv_at hl 2 rfl) ?_
  refine lv_if_lt (tgt := 38) hx hb dX3_has_6 (by decide) (fun c_6 => absurd c_6 (nI_pos (by omega))) (fun _ => ?_)
  refine lv_iload_n hx hb dX3_has_9 rfl (lv_at hl 0 rfl) ?_
  refine lv_aload_n hx hb dX3_has_10 rfl (lv_at hl 1 rfl) ?_
  refine ck_get (v := .ref (ad j)) hx hb hts hinX3 hown hK hW hN hF rfl 0 (by decide) (hts _ (List.mem_of_getElem? (i := 1) rfl)) rfl rfl dX3_has_11 ?_
  refine ck_alen (v := 157) hx hb hK hW hNj hFj 1 rfl rfl dX3_has_14 ?_
  refine lv_icmp_ge (tgt := 38) hx hb dX3_has_15 (by decide) (fun c_15 => absurd c_15 (by rw [hq64]; exact nI_ge (a := q / 64) (b := 157) (by omega) (by decide))) (fun _ => ?_)
  refine lv_aload_n hx hb dX3_has_18 rfl (lv_at hl 1 rfl) ?_
  refine ck_get (v := .ref (ad j)) hx hb hts hinX3 hown hK hW hN hF rfl 0 (by decide) (hts _ (List.mem_of_getElem? (i := 1) rfl)) rfl rfl dX3_has_19 ?_
  refine lv_iload_n hx hb dX3_has_22 rfl (lv_at hl 0 rfl) ?_
  refine ck_lald hx hb hK hW hNj hFj (q / 64) (hq64) (by omega) (by decide) dX3_has_23 ?_
  refine lv_iload_n hx hb dX3_has_24 rfl (lv_at hl 2 rfl) ?_
  refine ck_cSl (As := [.int (nI q)]) (rest := [.long (w (q / 64))]) ⟨hx, hb, hml, hown, hts⟩ hKK (ct_X3_bitOf l G s.heap ((nI q))) (va_cwS 1 hts gX3_has_X3_bitOf rfl rfl rfl (by decide +kernel) ⟨Nat.le_of_ble_eq_true rfl, Nat.le_of_ble_eq_true rfl⟩) rfl hl rfl (Nat.le_of_ble_eq_true rfl) dX3_has_25 ⟨Nat.le_of_ble_eq_true rfl, Nat.le_of_ble_eq_true rfl⟩ (fun r_25 h_25 => ?_)
  subst h_25
  refine lv_land hx hb dX3_has_28 ?_
  refine lv_lconst (v := 0) hx hb dX3_has_29 (by decide) ?_
  refine W.lcmp hx hb dX3_has_30 ?_
  refine lv_if_eq (tgt := 38) hx hb dX3_has_31 (by decide) (fun c_31 => ?_) (fun c_31 => ?_)
  · skip
    refine lv_iconst (v := 0) hx hb dX3_has_38 (by decide) ?_
    exact W.zret (v := 0) hx hb hr rfl (fun t ht hW9 => ⟨_, rfl, Or.inr ⟨fun h => h ((ck_cmp0 _).mp c_31), rfl⟩, ht⟩) (fun _ h => nomatch h) dX3_has_39
  · skip
    refine lv_iconst (v := 1) hx hb dX3_has_34 (by decide) ?_
    refine lv_goto (tgt := 39) hx hb dX3_has_35 (by decide) ?_
    exact W.zret (v := 1) hx hb hr rfl (fun t ht hW9 => ⟨_, rfl, Or.inl ⟨fun h => c_31 ((ck_cmp0 _).mpr h), rfl⟩, ht⟩) (fun _ h => nomatch h) dX3_has_39
set_option maxHeartbeats 4000000 in
set_option maxRecDepth 100000 in
theorem ct_X3_add (l : Launch) (G : ck_G) (H : Heap) (ad : Nat → Nat) (N : Nat → Prop) (F : Nat → va_E) (hW : ck_W G ad N F H) (i : Nat) (hN : N i) (j : Nat) (v1 v2 v3 v4 : Int32) (hF : F i = .inr (3, [.ref (ad j), .int v1, .int v2, .int v3, .int v4])) (hNj : N j) (w : Nat → Int64) (hFj : F j = .inl (G.2.1 1, 157, .inr (.inl w))) (hij : i ≠ j) (q : Nat) (hq : q < 10000) : Met l yX3_add wsX3_add ({ frames := 1, cells := 0, slots := 0, locals := 21 }) (ck_P G H [.ref (ad i), .int (nI q)]) (ck_Qv G (fun H1 => ck_W G ad N (va_up (va_up F j (.inl (G.2.1 1, 157, .inr (.inl (vp_updL w (q / 64) (w (q / 64) ||| ck_bit (nI q))))))) i (.inr (3, [.ref (ad j), .int (v1 + 1), .int (ck_min v2 (nI q)), .int (ck_max v3 (nI q)), .int v4]))) H1)) 0 0 (ck_A G) := by
  refine Met.ofW (cc := cX3_add) (maxL := 3) (ret := none) (by decide) rfl ?_
  intro p e s m args below meth c s₁ B hml hv
  obtain ⟨rfl, hH, hKK⟩ := hv
  subst hH
  have hx := B.exec
  have hb := B.bytes
  have hr := B.returns
  have hts := atoms_spec (ws := wsX3_add) B.pre
  have hown : s.vm.findClass RX3 = some m.cls := findClass_of_methodNamed B.named
  have hlocks := B.notSynchronized
  have hKK0 := hKK
  have hK := hKK.1.1
  have hS : va_S (ck_A G) s.heap s.heap [] := va_S.rf
  have hinX3 : ∀ w ∈ u_ws RX3 TX3 5, w ∈ wsX3_add := by decide +kernel
  have hl := lv_entry ([.ref (ad i), .int (nI q)]) (n := 3) (Nat.le_of_ble_eq_true rfl)
  rw [lg_entry_eq]
  generalize (lg_sl ([.ref (ad i), .int (nI q)]) ++ List.replicate (3 - (lg_sl ([.ref (ad i), .int (nI q)])).length) Slot.unset).toArray = ls at hl ⊢
  have hl : lv_has ls 3 [(0, .ref (ad i)), (1, .int (nI q))] := hl
  have hq64 : nI q / 64 = nI (q / 64) := pk_div (by omega) (by decide) (by decide)
  refine lv_iload_n hx hb dX3_add_0 rfl (lv_at hl 1 rfl) ?_
  refine lv_bipush (v := 64) hx hb dX3_add_1 (by decide) ?_
  refine lv_idiv hx hb dX3_add_3 (by decide) ?_
  refine lv_istore_n (lv' := [(2, .int (((nI q)) / 64)), (0, .ref (ad i)), (1, .int (nI q))]) hx hb dX3_add_4 rfl hl (by decide) rfl (fun ls hl => ?_)
  refine lv_iload_n hx hb dX3_add_5 rfl (lv_at hl 2 rfl) ?_
  refine lv_if_lt (tgt := 18) hx hb dX3_add_6 (by decide) (fun c_6 => absurd c_6 (nI_pos (by omega))) (fun _ => ?_)
  refine lv_iload_n hx hb dX3_add_9 rfl (lv_at hl 0 rfl) ?_
  refine lv_aload_n hx hb dX3_add_10 rfl (lv_at hl 1 rfl) ?_
  refine ck_get (v := .ref (ad j)) hx hb hts hinX3 hown hK hW hN hF rfl 0 (by decide) (hts _ (List.mem_of_getElem? (i := 1) rfl)) rfl rfl dX3_add_11 ?_
  refine ck_alen (v := 157) hx hb hK hW hNj hFj 1 rfl rfl dX3_add_14 ?_
  refine lv_icmp_lt (tgt := 19) hx hb dX3_add_15 (by decide) (fun _ => ?_) (fun c_15 => absurd (by rw [hq64]; exact nI_lt (a := q / 64) (b := 157) (by omega) (by decide)) c_15)
  refine lv_aload_n hx hb dX3_add_19 rfl (lv_at hl 1 rfl) ?_
  refine ck_get (v := .ref (ad j)) hx hb hts hinX3 hown hK hW hN hF rfl 0 (by decide) (hts _ (List.mem_of_getElem? (i := 1) rfl)) rfl rfl dX3_add_20 ?_
  refine lv_iload_n hx hb dX3_add_23 rfl (lv_at hl 0 rfl) ?_
  refine lv_dup2_11 hx hb dX3_add_24 rfl rfl ?_
  refine ck_lald hx hb hK hW hNj hFj (q / 64) (hq64) (by omega) (by decide) dX3_add_25 ?_
  refine lv_iload_n hx hb dX3_add_26 rfl (lv_at hl 2 rfl) ?_
  refine ck_cSl (As := [.int (nI q)]) (rest := [.long (w (q / 64)), .int (((nI q)) / 64), .ref (ad j)]) ⟨hx, hb, hml, hown, hts⟩ hKK (ct_X3_bitOf l G s.heap ((nI q))) (va_cwS 1 hts gX3_add_X3_bitOf rfl rfl rfl (by decide +kernel) ⟨Nat.le_of_ble_eq_true rfl, Nat.le_of_ble_eq_true rfl⟩) rfl hl rfl (Nat.le_of_ble_eq_true rfl) dX3_add_27 ⟨Nat.le_of_ble_eq_true rfl, Nat.le_of_ble_eq_true rfl⟩ (fun r_27 h_27 => ?_)
  subst h_27
  refine lv_lor hx hb dX3_add_30 ?_
  refine ck_last hx hb hK hW hS hNj hFj (q / 64) (hq64) (by omega) (by decide) dX3_add_31 (fun H locs hW hS hz31 => ?_)
  have hFI31 := (va_up_ne (k := j) (j := i) F (.inl (G.2.1 1, 157, .inr (.inl (vp_updL w (q / 64) ((((w (q / 64))) ||| ((ck_bit ((nI q)))))))))) (by omega)).trans hF
  have hFJ31 := va_up_self F j (.inl (G.2.1 1, 157, .inr (.inl (vp_updL w (q / 64) ((((w (q / 64))) ||| ((ck_bit ((nI q))))))))))
  have hKK := hKK0.keep hS.2.1
  refine lv_aload_n hx hb dX3_add_32 rfl (lv_at hl 1 rfl) ?_
  refine lv_dup hx hb dX3_add_33 rfl ?_
  refine ck_get (v := .int v1) hx hb hts hinX3 hown hK hW hN hFI31 rfl 1 (by decide) (hts _ (List.mem_of_getElem? (i := 2) rfl)) rfl rfl dX3_add_34 ?_
  refine lv_iconst (v := 1) hx hb dX3_add_37 (by decide) ?_
  refine lv_iadd hx hb dX3_add_38 ?_
  refine ck_put (v := .int (v1 + 1)) (ty := .int) hx hb hts hinX3 tyX3 tyX3_ok nmX3 hown hK hW hS hN hFI31 rfl 1 (by decide) (hts _ (List.mem_of_getElem? (i := 2) rfl)) rfl rfl (by decide +kernel) rfl rfl (Nat.le_of_ble_eq_true rfl) dX3_add_39 (fun H locs hW hS hz39 => ?_)
  have hFJ39 := (va_up_ne (k := i) (j := j) (va_up F j (.inl (G.2.1 1, 157, .inr (.inl (vp_updL w (q / 64) ((((w (q / 64))) ||| ((ck_bit ((nI q))))))))))) (.inr (3, [.ref (ad j), .int (v1 + 1), .int v2, .int v3, .int v4])) (by omega)).trans hFJ31
  have hFI39 := va_up_self (va_up F j (.inl (G.2.1 1, 157, .inr (.inl (vp_updL w (q / 64) ((((w (q / 64))) ||| ((ck_bit ((nI q))))))))))) i (.inr (3, [.ref (ad j), .int (v1 + 1), .int v2, .int v3, .int v4]))
  have hKK := hKK0.keep hS.2.1
  refine lv_aload_n hx hb dX3_add_42 rfl (lv_at hl 1 rfl) ?_
  refine lv_aload_n hx hb dX3_add_43 rfl (lv_at hl 1 rfl) ?_
  refine ck_get (v := .int v2) hx hb hts hinX3 hown hK hW hN hFI39 rfl 2 (by decide) (hts _ (List.mem_of_getElem? (i := 3) rfl)) rfl rfl dX3_add_44 ?_
  refine lv_iload_n hx hb dX3_add_47 rfl (lv_at hl 2 rfl) ?_
  refine va_mmin hx hb (hml.trans hl.1.symm) hown (hts _ (List.mem_of_getElem? (i := 4) rfl)) (hts _ (List.mem_of_getElem? (i := 5) rfl)) (hts _ (List.mem_of_getElem? (i := 6) rfl)) (hts _ (List.mem_of_getElem? (i := 7) rfl)) (Nat.le_of_ble_eq_true rfl) (Nat.le_of_ble_eq_true rfl) (Nat.le_of_ble_eq_true rfl) (Nat.le_of_ble_eq_true rfl) dX3_add_48 ?_
  refine ck_put (v := .int (if (nI q) < v2 then (nI q) else v2)) (ty := .int) hx hb hts hinX3 tyX3 tyX3_ok nmX3 hown hK hW hS hN hFI39 rfl 2 (by decide) (hts _ (List.mem_of_getElem? (i := 3) rfl)) rfl rfl (by decide +kernel) rfl rfl (Nat.le_of_ble_eq_true rfl) dX3_add_51 (fun H locs hW hS hz51 => ?_)
  have hFJ51 := (va_up_ne (k := i) (j := j) (va_up (va_up F j (.inl (G.2.1 1, 157, .inr (.inl (vp_updL w (q / 64) ((((w (q / 64))) ||| ((ck_bit ((nI q))))))))))) i (.inr (3, [.ref (ad j), .int (v1 + 1), .int v2, .int v3, .int v4]))) (.inr (3, [.ref (ad j), .int (v1 + 1), .int (if (nI q) < v2 then (nI q) else v2), .int v3, .int v4])) (by omega)).trans hFJ39
  have hFI51 := va_up_self (va_up (va_up F j (.inl (G.2.1 1, 157, .inr (.inl (vp_updL w (q / 64) ((((w (q / 64))) ||| ((ck_bit ((nI q))))))))))) i (.inr (3, [.ref (ad j), .int (v1 + 1), .int v2, .int v3, .int v4]))) i (.inr (3, [.ref (ad j), .int (v1 + 1), .int (if (nI q) < v2 then (nI q) else v2), .int v3, .int v4]))
  have hKK := hKK0.keep hS.2.1
  refine lv_aload_n hx hb dX3_add_54 rfl (lv_at hl 1 rfl) ?_
  refine lv_aload_n hx hb dX3_add_55 rfl (lv_at hl 1 rfl) ?_
  refine ck_get (v := .int v3) hx hb hts hinX3 hown hK hW hN hFI51 rfl 3 (by decide) (hts _ (List.mem_of_getElem? (i := 8) rfl)) rfl rfl dX3_add_56 ?_
  refine lv_iload_n hx hb dX3_add_59 rfl (lv_at hl 2 rfl) ?_
  refine va_mmax hx hb (hml.trans hl.1.symm) hown (hts _ (List.mem_of_getElem? (i := 9) rfl)) (hts _ (List.mem_of_getElem? (i := 10) rfl)) (hts _ (List.mem_of_getElem? (i := 6) rfl)) (hts _ (List.mem_of_getElem? (i := 11) rfl)) (Nat.le_of_ble_eq_true rfl) (Nat.le_of_ble_eq_true rfl) (Nat.le_of_ble_eq_true rfl) (Nat.le_of_ble_eq_true rfl) dX3_add_60 ?_
  refine ck_put (v := .int (if v3 < (nI q) then (nI q) else v3)) (ty := .int) hx hb hts hinX3 tyX3 tyX3_ok nmX3 hown hK hW hS hN hFI51 rfl 3 (by decide) (hts _ (List.mem_of_getElem? (i := 8) rfl)) rfl rfl (by decide +kernel) rfl rfl (Nat.le_of_ble_eq_true rfl) dX3_add_63 (fun H locs hW hS hz63 => ?_)
  have hFJ63 := (va_up_ne (k := i) (j := j) (va_up (va_up (va_up F j (.inl (G.2.1 1, 157, .inr (.inl (vp_updL w (q / 64) ((((w (q / 64))) ||| ((ck_bit ((nI q))))))))))) i (.inr (3, [.ref (ad j), .int (v1 + 1), .int v2, .int v3, .int v4]))) i (.inr (3, [.ref (ad j), .int (v1 + 1), .int (if (nI q) < v2 then (nI q) else v2), .int v3, .int v4]))) (.inr (3, [.ref (ad j), .int (v1 + 1), .int (if (nI q) < v2 then (nI q) else v2), .int (if v3 < (nI q) then (nI q) else v3), .int v4])) (by omega)).trans hFJ51
  have hFI63 := va_up_self (va_up (va_up (va_up F j (.inl (G.2.1 1, 157, .inr (.inl (vp_updL w (q / 64) ((((w (q / 64))) ||| ((ck_bit ((nI q))))))))))) i (.inr (3, [.ref (ad j), .int (v1 + 1), .int v2, .int v3, .int v4]))) i (.inr (3, [.ref (ad j), .int (v1 + 1), .int (if (nI q) < v2 then (nI q) else v2), .int v3, .int v4]))) i (.inr (3, [.ref (ad j), .int (v1 + 1), .int (if (nI q) < v2 then (nI q) else v2), .int (if v3 < (nI q) then (nI q) else v3), .int v4]))
  have hKK := hKK0.keep hS.2.1
  exact W.vret hx hb hr (fun t ht hW9 => ⟨⟨rfl, by rw [ht]; exact hW.eq (by rw [ck_up2, ck_up2]; rfl)⟩, hS.F ht⟩) hS.2.2 dX3_add_66
def ck_pl (f : Nat → Int32) (x : Int32) : Nat → Nat → Int32
  | _, 0 => -1
  | k, n + 1 => if f k = x then nI k else ck_pl f x (k + 1) n
def ck_place (f : Nat → Int32) (x : Int32) : Int32 := ck_pl f x 0 10
theorem ck_pl_in (f : Nat → Int32) (x : Int32) : ∀ n k, ck_pl f x k n = -1 ∨ ∃ j, k ≤ j ∧ j < k + n ∧ ck_pl f x k n = nI j ∧ f j = x
  | 0, k => Or.inl rfl
  | n + 1, k => by
    by_cases h : f k = x
    · exact Or.inr ⟨k, Nat.le_refl _, by omega, by simp [ck_pl, h], h⟩
    · rcases ck_pl_in f x n (k + 1) with e | ⟨j, h1, h2, h3, h4⟩
      · exact Or.inl (by simp [ck_pl, h, e])
      · exact Or.inr ⟨j, by omega, by omega, by simp [ck_pl, h, h3], h4⟩
theorem ck_pl_no (f : Nat → Int32) (x : Int32) : ∀ n k, k + n < 2 ^ 31 → ck_pl f x k n = -1 → ∀ j, k ≤ j → j < k + n → f j ≠ x
  | 0, k, _, _, j, h1, h2 => by omega
  | n + 1, k, hk, e, j, h1, h2 => by
    by_cases h : f k = x
    · simp [ck_pl, h] at e
      exact absurd e (fun e => absurd (congrArg (fun z => decide (z < 0)) e) (by rw [decide_eq_false (nI_pos (show k < 2 ^ 31 by omega))]; decide))
    · by_cases h3 : j = k
      · subst h3; exact h
      · exact ck_pl_no f x n (k + 1) (by omega) (by simpa [ck_pl, h] using e) j (by omega) (by omega)
theorem ck_place_in (f : Nat → Int32) (x : Int32) : ck_place f x = -1 ∨ ∃ j, j < 10 ∧ ck_place f x = nI j ∧ f j = x := by
  rcases ck_pl_in f x 10 0 with h | ⟨j, -, h2, h3, h4⟩
  · exact Or.inl h
  · exact Or.inr ⟨j, by omega, h3, h4⟩
theorem ck_pl_go {f : Nat → Int32} {x z : Int32} {k : Nat} (hk : k < 10) (c : ¬ f k = x) (hI : ck_pl f x k (10 - k) = z) : ck_pl f x (k + 1) (10 - (k + 1)) = z := by
  rw [show 10 - k = (10 - (k + 1)) + 1 by omega] at hI
  rw [← hI]; simp [ck_pl, c]
theorem ck_pl_hit {f : Nat → Int32} {x z : Int32} {k : Nat} (hk : k < 10) (c : f k = x) (hI : ck_pl f x k (10 - k) = z) : nI k = z := by
  rw [show 10 - k = (10 - (k + 1)) + 1 by omega] at hI
  rw [← hI]; simp [ck_pl, c]
set_option maxHeartbeats 4000000 in
set_option maxRecDepth 100000 in
theorem ct_X1_placeOf (l : Launch) (G : ck_G) (H : Heap) (ad : Nat → Nat) (N : Nat → Prop) (F : Nat → va_E) (hW : ck_W G ad N F H) (i : Nat) (hN : N i) (j k : Nat) (hF : F i = .inr (1, [.ref (ad j), .ref (ad k)])) (hNj : N j) (f : Nat → Int32) (hFj : F j = .inl (G.2.1 0, 10, .inl f)) (a0 : Int32) : Met l yX1_placeOf wsX1_placeOf ({ frames := 0, cells := 0, slots := 0, locals := 0 }) (ck_P G H [.ref (ad i), .int a0]) (vp_Si (fun r => r = ck_place f a0)) 0 0 (fun _ => False) := by
  refine Met.ofW (cc := cX1_placeOf) (maxL := 3) (ret := (some .int)) (by decide) rfl ?_
  intro p e s m args below meth c s₁ B hml hv
  obtain ⟨rfl, hH, hKK⟩ := hv
  subst hH
  have hx := B.exec
  have hb := B.bytes
  have hr := B.returns
  have hts := atoms_spec (ws := wsX1_placeOf) B.pre
  have hown : s.vm.findClass RX1 = some m.cls := findClass_of_methodNamed B.named
  have hlocks := B.notSynchronized
  have hKK0 := hKK
  have hK := hKK.1.1
  have hinX1 : ∀ w ∈ u_ws RX1 TX1 2, w ∈ wsX1_placeOf := by decide +kernel
  have hl := lv_entry ([.ref (ad i), .int a0]) (n := 3) (Nat.le_of_ble_eq_true rfl)
  rw [lg_entry_eq]
  generalize (lg_sl ([.ref (ad i), .int a0]) ++ List.replicate (3 - (lg_sl ([.ref (ad i), .int a0])).length) Slot.unset).toArray = ls at hl ⊢
  have hl : lv_has ls 3 [(0, .ref (ad i)), (1, .int a0)] := hl
  refine lv_iconst (v := 0) hx hb dX1_placeOf_0 (by decide) ?_
  refine lv_istore_n (lv' := [(2, .int 0), (0, .ref (ad i)), (1, .int a0)]) hx hb dX1_placeOf_1 rfl hl (by decide) rfl (fun ls hl => ?_)
  refine ck_loop (P := fun ls => W p l e _ s m _ below meth c _ _ _ _ _ (F0 m _ ls _)) 10 (fun k => [(2, .int (nI k)), (0, .ref (ad i)), (1, .int a0)]) (fun k => ck_pl f a0 k (10 - k) = ck_place f a0) (lv_sub hl [0, 1, 2] rfl) (rfl) ?_ ?_
  · intro ls hl hI2
    have hl : lv_has ls 3 [(2, .int (nI 10)), (0, .ref (ad i)), (1, .int a0)] := hl
    refine lv_iload_n hx hb dX1_placeOf_2 rfl (lv_at hl 0 rfl) ?_
    refine lv_bipush (v := 10) hx hb dX1_placeOf_3 (by decide) ?_
    refine lv_icmp_ge (tgt := 26) hx hb dX1_placeOf_5 (by decide) (fun _ => ?_) (fun c_5 => absurd (Int32.le_refl _) c_5)
    refine lv_iconst (v := (-1)) hx hb dX1_placeOf_26 (by decide) ?_
    exact W.iret (v := (-1)) hx hb hr (fun t ht hW9 => ⟨_, rfl, hI2, ht⟩) (fun _ h => nomatch h) dX1_placeOf_27
  · intro k2 hk2 hI2 ih2 ls hl
    have hl : lv_has ls 3 [(2, .int (nI k2)), (0, .ref (ad i)), (1, .int a0)] := hl
    refine lv_iload_n hx hb dX1_placeOf_2 rfl (lv_at hl 0 rfl) ?_
    refine lv_bipush (v := 10) hx hb dX1_placeOf_3 (by decide) ?_
    refine lv_icmp_ge (tgt := 26) hx hb dX1_placeOf_5 (by decide) (fun c_5 => absurd c_5 (nI_ge hk2 (by decide))) (fun _ => ?_)
    refine lv_aload_n hx hb dX1_placeOf_8 rfl (lv_at hl 1 rfl) ?_
    refine ck_get (v := .ref (ad j)) hx hb hts hinX1 hown hK hW hN hF rfl 0 (by decide) (hts _ (List.mem_of_getElem? (i := 1) rfl)) rfl rfl dX1_placeOf_9 ?_
    refine lv_iload_n hx hb dX1_placeOf_12 rfl (lv_at hl 0 rfl) ?_
    refine ck_iald hx hb hK hW hNj hFj k2 (rfl) (by omega) (by decide) dX1_placeOf_13 ?_
    refine lv_iload_n hx hb dX1_placeOf_14 rfl (lv_at hl 2 rfl) ?_
    refine lv_icmp_ne (tgt := 20) hx hb dX1_placeOf_15 (by decide) (fun c_15 => ?_) (fun c_15 => ?_)
    · skip
      refine lv_iinc (v := nI (k2 + 1)) (lv' := [(2, .int (nI (k2 + 1))), (0, .ref (ad i)), (1, .int a0)]) hx hb dX1_placeOf_20 hl (k := 0) rfl (nI_1 k2) (by decide) rfl (fun ls hl => ?_)
      refine lv_goto (tgt := 2) hx hb dX1_placeOf_23 (by decide) ?_
      exact ih2 ls (lv_sub hl [0, 1, 2] rfl) (ck_pl_go hk2 c_15 hI2)
    · skip
      refine lv_iload_n hx hb dX1_placeOf_18 rfl (lv_at hl 0 rfl) ?_
      exact W.iret (v := (nI k2)) hx hb hr (fun t ht hW9 => ⟨_, rfl, ck_pl_hit hk2 c_15 hI2, ht⟩) (fun _ h => nomatch h) dX1_placeOf_19
set_option maxHeartbeats 4000000 in
set_option maxRecDepth 100000 in
theorem ct_X1_hasPlaceFor (l : Launch) (G : ck_G) (H : Heap) (ad : Nat → Nat) (N : Nat → Prop) (F : Nat → va_E) (hW : ck_W G ad N F H) (i : Nat) (hN : N i) (j k : Nat) (hF : F i = .inr (1, [.ref (ad j), .ref (ad k)])) (hNj : N j) (f : Nat → Int32) (hFj : F j = .inl (G.2.1 0, 10, .inl f)) (a0 : Int32) : Met l yX1_hasPlaceFor wsX1_hasPlaceFor ({ frames := 1, cells := 0, slots := 0, locals := 22 }) (ck_P G H [.ref (ad i), .int a0]) (vp_Si (fun r => ck_b (¬ ck_place f a0 = -1 ∨ ¬ ck_place f 0 = -1) r)) 0 0 (fun _ => False) := by
  refine Met.ofW (cc := cX1_hasPlaceFor) (maxL := 2) (ret := (some .boolean)) (by decide) rfl ?_
  intro p e s m args below meth c s₁ B hml hv
  obtain ⟨rfl, hH, hKK⟩ := hv
  subst hH
  have hx := B.exec
  have hb := B.bytes
  have hr := B.returns
  have hts := atoms_spec (ws := wsX1_hasPlaceFor) B.pre
  have hown : s.vm.findClass RX1 = some m.cls := findClass_of_methodNamed B.named
  have hlocks := B.notSynchronized
  have hKK0 := hKK
  have hK := hKK.1.1
  have hl := lv_entry ([.ref (ad i), .int a0]) (n := 2) (Nat.le_of_ble_eq_true rfl)
  rw [lg_entry_eq]
  generalize (lg_sl ([.ref (ad i), .int a0]) ++ List.replicate (2 - (lg_sl ([.ref (ad i), .int a0])).length) Slot.unset).toArray = ls at hl ⊢
  have hl : lv_has ls 2 [(0, .ref (ad i)), (1, .int a0)] := hl
  refine lv_aload_n hx hb dX1_hasPlaceFor_0 rfl (lv_at hl 0 rfl) ?_
  refine lv_iload_n hx hb dX1_hasPlaceFor_1 rfl (lv_at hl 1 rfl) ?_
  refine ck_cVi (As := [.int a0]) (rest := []) ⟨hx, hb, hml, hown, hts⟩ hKK (ct_X1_placeOf l G s.heap ad N F hW i hN j k hF hNj f hFj a0) (cwV 1 hts gX1_hasPlaceFor_X1_placeOf rfl rfl rfl (by decide +kernel) ⟨Nat.le_of_ble_eq_true rfl, Nat.le_of_ble_eq_true rfl⟩) (ck_recv hK hW hN hF rfl) rfl hl rfl (Nat.le_of_ble_eq_true rfl) dX1_hasPlaceFor_2 ⟨Nat.le_of_ble_eq_true rfl, Nat.le_of_ble_eq_true rfl⟩ (fun r_2 h_2 => ?_)
  subst h_2
  refine lv_iconst (v := (-1)) hx hb dX1_hasPlaceFor_5 (by decide) ?_
  refine lv_icmp_ne (tgt := 18) hx hb dX1_hasPlaceFor_6 (by decide) (fun c_6 => ?_) (fun c_6 => ?_)
  · skip
    refine lv_iconst (v := 1) hx hb dX1_hasPlaceFor_18 (by decide) ?_
    refine lv_goto (tgt := 23) hx hb dX1_hasPlaceFor_19 (by decide) ?_
    exact W.zret (v := 1) hx hb hr rfl (fun t ht hW9 => ⟨_, rfl, Or.inl ⟨Or.inl c_6, rfl⟩, ht⟩) (fun _ h => nomatch h) dX1_hasPlaceFor_23
  · skip
    refine lv_aload_n hx hb dX1_hasPlaceFor_9 rfl (lv_at hl 0 rfl) ?_
    refine lv_iconst (v := 0) hx hb dX1_hasPlaceFor_10 (by decide) ?_
    refine ck_cVi (As := [.int 0]) (rest := []) ⟨hx, hb, hml, hown, hts⟩ hKK (ct_X1_placeOf l G s.heap ad N F hW i hN j k hF hNj f hFj 0) (cwV 1 hts gX1_hasPlaceFor_X1_placeOf rfl rfl rfl (by decide +kernel) ⟨Nat.le_of_ble_eq_true rfl, Nat.le_of_ble_eq_true rfl⟩) (ck_recv hK hW hN hF rfl) rfl hl rfl (Nat.le_of_ble_eq_true rfl) dX1_hasPlaceFor_11 ⟨Nat.le_of_ble_eq_true rfl, Nat.le_of_ble_eq_true rfl⟩ (fun r_11 h_11 => ?_)
    subst h_11
    refine lv_iconst (v := (-1)) hx hb dX1_hasPlaceFor_14 (by decide) ?_
    refine lv_icmp_eq (tgt := 22) hx hb dX1_hasPlaceFor_15 (by decide) (fun c_15 => ?_) (fun c_15 => ?_)
    · skip
      refine lv_iconst (v := 0) hx hb dX1_hasPlaceFor_22 (by decide) ?_
      exact W.zret (v := 0) hx hb hr rfl (fun t ht hW9 => ⟨_, rfl, Or.inr ⟨fun h => h.elim (fun h => h c_6) (fun h => h c_15), rfl⟩, ht⟩) (fun _ h => nomatch h) dX1_hasPlaceFor_23
    · skip
      refine lv_iconst (v := 1) hx hb dX1_hasPlaceFor_18 (by decide) ?_
      refine lv_goto (tgt := 23) hx hb dX1_hasPlaceFor_19 (by decide) ?_
      exact W.zret (v := 1) hx hb hr rfl (fun t ht hW9 => ⟨_, rfl, Or.inl ⟨Or.inr c_15, rfl⟩, ht⟩) (fun _ h => nomatch h) dX1_hasPlaceFor_23
def ck_pf (f h : Nat → Int32) (x : Int32) : Nat → Int32 × Int32
  | 0 => (0, -1)
  | k + 1 => if (ck_pf f h x k).1 < f k ∧ ck_fit (f k) x = true then (f k, h k) else ck_pf f h x k
theorem ck_pf_yes {f h : Nat → Int32} {x : Int32} {k : Nat} (c : (ck_pf f h x k).1 < f k) (d : ck_fit (f k) x = true) : ck_pf f h x (k + 1) = (f k, h k) := by simp [ck_pf, c, d]
theorem ck_pf_no {f h : Nat → Int32} {x : Int32} {k : Nat} (c : ¬ ((ck_pf f h x k).1 < f k ∧ ck_fit (f k) x = true)) : ck_pf f h x (k + 1) = ck_pf f h x k := by
  show (if _ then _ else _) = _
  rw [if_neg c]
set_option maxHeartbeats 4000000 in
set_option maxRecDepth 100000 in
theorem ct_X1_priceFor (l : Launch) (G : ck_G) (H : Heap) (ad : Nat → Nat) (N : Nat → Prop) (F : Nat → va_E) (hW : ck_W G ad N F H) (i : Nat) (hN : N i) (j k : Nat) (hF : F i = .inr (1, [.ref (ad j), .ref (ad k)])) (hNj : N j) (f : Nat → Int32) (hFj : F j = .inl (G.2.1 0, 10, .inl f)) (hNk : N k) (h : Nat → Int32) (hFk : F k = .inl (G.2.1 0, 10, .inl h)) (a0 : Int32) : Met l yX1_priceFor wsX1_priceFor ({ frames := 1, cells := 0, slots := 0, locals := 23 }) (ck_P G H [.ref (ad i), .int a0]) (vp_Si (fun r => r = (ck_pf f h a0 10).2)) 0 0 (fun _ => False) := by
  refine Met.ofW (cc := cX1_priceFor) (maxL := 5) (ret := (some .int)) (by decide) rfl ?_
  intro p e s m args below meth c s₁ B hml hv
  obtain ⟨rfl, hH, hKK⟩ := hv
  subst hH
  have hx := B.exec
  have hb := B.bytes
  have hr := B.returns
  have hts := atoms_spec (ws := wsX1_priceFor) B.pre
  have hown : s.vm.findClass RX1 = some m.cls := findClass_of_methodNamed B.named
  have hlocks := B.notSynchronized
  have hKK0 := hKK
  have hK := hKK.1.1
  have hinX1 : ∀ w ∈ u_ws RX1 TX1 2, w ∈ wsX1_priceFor := by decide +kernel
  have hl := lv_entry ([.ref (ad i), .int a0]) (n := 5) (Nat.le_of_ble_eq_true rfl)
  rw [lg_entry_eq]
  generalize (lg_sl ([.ref (ad i), .int a0]) ++ List.replicate (5 - (lg_sl ([.ref (ad i), .int a0])).length) Slot.unset).toArray = ls at hl ⊢
  have hl : lv_has ls 5 [(0, .ref (ad i)), (1, .int a0)] := hl
  refine lv_iconst (v := 0) hx hb dX1_priceFor_0 (by decide) ?_
  refine lv_istore_n (lv' := [(2, .int 0), (0, .ref (ad i)), (1, .int a0)]) hx hb dX1_priceFor_1 rfl hl (by decide) rfl (fun ls hl => ?_)
  refine lv_iconst (v := (-1)) hx hb dX1_priceFor_2 (by decide) ?_
  refine lv_istore_n (lv' := [(3, .int (-1)), (2, .int 0), (0, .ref (ad i)), (1, .int a0)]) hx hb dX1_priceFor_3 rfl hl (by decide) rfl (fun ls hl => ?_)
  refine lv_iconst (v := 0) hx hb dX1_priceFor_4 (by decide) ?_
  refine lv_istore (lv' := [(4, .int 0), (3, .int (-1)), (2, .int 0), (0, .ref (ad i)), (1, .int a0)]) hx hb dX1_priceFor_5 hl (by decide) rfl (fun ls hl => ?_)
  refine ck_loop (P := fun ls => W p l e _ s m _ below meth c _ _ _ _ _ (F0 m _ ls _)) 10 (fun k => [(4, .int (nI k)), (3, .int (ck_pf f h a0 k).2), (2, .int (ck_pf f h a0 k).1), (0, .ref (ad i)), (1, .int a0)]) (fun k => True) (lv_sub hl [0, 1, 2, 3, 4] rfl) (trivial) ?_ ?_
  · intro ls hl hI7
    have hl : lv_has ls 5 [(4, .int (nI 10)), (3, .int (ck_pf f h a0 10).2), (2, .int (ck_pf f h a0 10).1), (0, .ref (ad i)), (1, .int a0)] := hl
    refine lv_iload hx hb dX1_priceFor_7 (lv_at hl 0 rfl) ?_
    refine lv_bipush (v := 10) hx hb dX1_priceFor_9 (by decide) ?_
    refine lv_icmp_ge (tgt := 61) hx hb dX1_priceFor_11 (by decide) (fun _ => ?_) (fun c_11 => absurd (Int32.le_refl _) c_11)
    refine lv_iload_n hx hb dX1_priceFor_61 rfl (lv_at hl 1 rfl) ?_
    exact W.iret (v := (ck_pf f h a0 10).2) hx hb hr (fun t ht hW9 => ⟨_, rfl, rfl, ht⟩) (fun _ h => nomatch h) dX1_priceFor_62
  · intro k7 hk7 hI7 ih7 ls hl
    have hl : lv_has ls 5 [(4, .int (nI k7)), (3, .int (ck_pf f h a0 k7).2), (2, .int (ck_pf f h a0 k7).1), (0, .ref (ad i)), (1, .int a0)] := hl
    refine lv_iload hx hb dX1_priceFor_7 (lv_at hl 0 rfl) ?_
    refine lv_bipush (v := 10) hx hb dX1_priceFor_9 (by decide) ?_
    refine lv_icmp_ge (tgt := 61) hx hb dX1_priceFor_11 (by decide) (fun c_11 => absurd c_11 (nI_ge hk7 (by decide))) (fun _ => ?_)
    refine lv_aload_n hx hb dX1_priceFor_14 rfl (lv_at hl 3 rfl) ?_
    refine ck_get (v := .ref (ad j)) hx hb hts hinX1 hown hK hW hN hF rfl 0 (by decide) (hts _ (List.mem_of_getElem? (i := 1) rfl)) rfl rfl dX1_priceFor_15 ?_
    refine lv_iload hx hb dX1_priceFor_18 (lv_at hl 0 rfl) ?_
    refine ck_iald hx hb hK hW hNj hFj k7 (rfl) (by omega) (by decide) dX1_priceFor_20 ?_
    refine lv_iload_n hx hb dX1_priceFor_21 rfl (lv_at hl 2 rfl) ?_
    refine lv_icmp_le (tgt := 55) hx hb dX1_priceFor_22 (by decide) (fun c_22 => ?_) (fun c_22 => ?_)
    · skip
      have e9 := ck_pf_no (f := f) (h := h) (x := a0) (k := k7) (fun z => absurd z.1 (Int32.not_lt.mpr c_22))
      have hl : lv_has ls 5 [(4, .int (nI k7)), (3, .int (ck_pf f h a0 (k7 + 1)).2), (2, .int (ck_pf f h a0 (k7 + 1)).1), (0, .ref (ad i)), (1, .int a0)] := by rw [e9]; exact hl
      refine lv_iinc (v := nI (k7 + 1)) (lv' := [(4, .int (nI (k7 + 1))), (3, .int (ck_pf f h a0 (k7 + 1)).2), (2, .int (ck_pf f h a0 (k7 + 1)).1), (0, .ref (ad i)), (1, .int a0)]) hx hb dX1_priceFor_55 hl (k := 0) rfl (nI_1 k7) (by decide) rfl (fun ls hl => ?_)
      refine lv_goto (tgt := 7) hx hb dX1_priceFor_58 (by decide) ?_
      exact ih7 ls (lv_sub hl [0, 1, 2, 3, 4] rfl) (trivial)
    · skip
      refine lv_aload_n hx hb dX1_priceFor_25 rfl (lv_at hl 3 rfl) ?_
      refine ck_get (v := .ref (ad j)) hx hb hts hinX1 hown hK hW hN hF rfl 0 (by decide) (hts _ (List.mem_of_getElem? (i := 1) rfl)) rfl rfl dX1_priceFor_26 ?_
      refine lv_iload hx hb dX1_priceFor_29 (lv_at hl 0 rfl) ?_
      refine ck_iald hx hb hK hW hNj hFj k7 (rfl) (by omega) (by decide) dX1_priceFor_31 ?_
      refine lv_iload_n hx hb dX1_priceFor_32 rfl (lv_at hl 4 rfl) ?_
      refine ck_cNi (As := [.int (f k7), .int a0]) (rest := []) ⟨hx, hb, hml, hown, hts⟩ hKK (ct_X4_fits l G s.heap ((f k7)) a0) ⟨va_cnB 2 hts gX1_priceFor_X4_fits_n22 rfl rfl rfl hKK.1.2.2.1.2.2 (hts _ (List.mem_of_getElem? (i := 4) rfl)) (by decide +kernel) ⟨Nat.le_of_ble_eq_true rfl, Nat.le_of_ble_eq_true rfl⟩, (hts _ (List.mem_of_getElem? (i := 3) rfl)), trivial⟩ rfl hl rfl (Nat.le_of_ble_eq_true rfl) dX1_priceFor_33 ⟨Nat.le_of_ble_eq_true rfl, Nat.le_of_ble_eq_true rfl⟩ (fun r_33 h_33 => ?_)
      rcases h_33 with ⟨h_33, rfl⟩ | ⟨h_33, rfl⟩
      · skip
        refine lv_if_eq (tgt := 55) hx hb dX1_priceFor_36 (by decide) (fun c_36 => absurd c_36 (by decide)) (fun _ => ?_)
        refine lv_aload_n hx hb dX1_priceFor_39 rfl (lv_at hl 3 rfl) ?_
        refine ck_get (v := .ref (ad j)) hx hb hts hinX1 hown hK hW hN hF rfl 0 (by decide) (hts _ (List.mem_of_getElem? (i := 1) rfl)) rfl rfl dX1_priceFor_40 ?_
        refine lv_iload hx hb dX1_priceFor_43 (lv_at hl 0 rfl) ?_
        refine ck_iald hx hb hK hW hNj hFj k7 (rfl) (by omega) (by decide) dX1_priceFor_45 ?_
        refine lv_istore_n (lv' := [(2, .int (f k7)), (4, .int (nI k7)), (3, .int (ck_pf f h a0 k7).2), (0, .ref (ad i)), (1, .int a0)]) hx hb dX1_priceFor_46 rfl hl (by decide) rfl (fun ls hl => ?_)
        refine lv_aload_n hx hb dX1_priceFor_47 rfl (lv_at hl 3 rfl) ?_
        refine ck_get (v := .ref (ad k)) hx hb hts hinX1 hown hK hW hN hF rfl 1 (by decide) (hts _ (List.mem_of_getElem? (i := 2) rfl)) rfl rfl dX1_priceFor_48 ?_
        refine lv_iload hx hb dX1_priceFor_51 (lv_at hl 1 rfl) ?_
        refine ck_iald hx hb hK hW hNk hFk k7 (rfl) (by omega) (by decide) dX1_priceFor_53 ?_
        refine lv_istore_n (lv' := [(3, .int (h k7)), (2, .int (f k7)), (4, .int (nI k7)), (0, .ref (ad i)), (1, .int a0)]) hx hb dX1_priceFor_54 rfl hl (by decide) rfl (fun ls hl => ?_)
        have e9 := ck_pf_yes (h := h) (Int32.not_le.mp c_22) h_33
        have hl : lv_has ls 5 [(3, .int (ck_pf f h a0 (k7 + 1)).2), (2, .int (ck_pf f h a0 (k7 + 1)).1), (4, .int (nI k7)), (0, .ref (ad i)), (1, .int a0)] := by rw [e9]; exact hl
        refine lv_iinc (v := nI (k7 + 1)) (lv' := [(4, .int (nI (k7 + 1))), (3, .int (ck_pf f h a0 (k7 + 1)).2), (2, .int (ck_pf f h a0 (k7 + 1)).1), (0, .ref (ad i)), (1, .int a0)]) hx hb dX1_priceFor_55 hl (k := 2) rfl (nI_1 k7) (by decide) rfl (fun ls hl => ?_)
        refine lv_goto (tgt := 7) hx hb dX1_priceFor_58 (by decide) ?_
        exact ih7 ls (lv_sub hl [0, 1, 2, 3, 4] rfl) (trivial)
      · skip
        refine lv_if_eq (tgt := 55) hx hb dX1_priceFor_36 (by decide) (fun _ => ?_) (fun c_36 => absurd (by decide) c_36)
        have e9 := ck_pf_no (f := f) (h := h) (x := a0) (k := k7) (fun z => h_33 z.2)
        have hl : lv_has ls 5 [(4, .int (nI k7)), (3, .int (ck_pf f h a0 (k7 + 1)).2), (2, .int (ck_pf f h a0 (k7 + 1)).1), (0, .ref (ad i)), (1, .int a0)] := by rw [e9]; exact hl
        refine lv_iinc (v := nI (k7 + 1)) (lv' := [(4, .int (nI (k7 + 1))), (3, .int (ck_pf f h a0 (k7 + 1)).2), (2, .int (ck_pf f h a0 (k7 + 1)).1), (0, .ref (ad i)), (1, .int a0)]) hx hb dX1_priceFor_55 hl (k := 0) rfl (nI_1 k7) (by decide) rfl (fun ls hl => ?_)
        refine lv_goto (tgt := 7) hx hb dX1_priceFor_58 (by decide) ?_
        exact ih7 ls (lv_sub hl [0, 1, 2, 3, 4] rfl) (trivial)
end
section
def ck_C (G : ck_G) (ad : Nat → Nat) (V : Nat → Nat → Int32) (L : Nat → Nat → Int64) (nc nr : Nat) (N : Nat → Prop) (F : Nat → va_E) : Prop :=
  (nc ≤ 60) ∧
  (nr ≤ 30) ∧
  (F 0 = .inr (4, [.ref (ad 1), .ref (ad 2), .int (nI nc), .int (V 13 0), .ref (ad 3), .int (nI nr), .int (V 13 1), .ref (ad 4)])) ∧
  (∃ f, F 1 = .inl (G.2.1 5, 3, .inr (.inr (.inr (.inr f)))) ∧ ∀ k, k < 3 → f k = some (ad (5 + k))) ∧
  (∃ f, F 2 = .inl (G.2.1 2, 60, .inr (.inr (.inr (.inr f)))) ∧ ∀ k, k < 60 → f k = if k < nc then some (ad (100 + k)) else none) ∧
  (∃ f, F 3 = .inl (G.2.1 4, 30, .inr (.inr (.inr (.inr f)))) ∧ ∀ k, k < 30 → f k = if k < nr then some (ad (200 + k)) else none) ∧
  (∃ f, F 4 = .inl (G.2.1 3, 4, .inr (.inr (.inr (.inr f)))) ∧ ∀ k, k < 4 → f k = some (ad (11 + k))) ∧
  (∀ k, k < 3 → F (5 + k) = .inr (3, [.ref (ad (8 + k)), .int (V 14 k), .int (V 16 k), .int (V 17 k), .int (V 15 k)])) ∧
  (∀ k, k < 3 → F (8 + k) = .inl (G.2.1 1, 157, .inr (.inl (L k)))) ∧
  (∀ k, k < 4 → F (11 + k) = .inr (1, [.ref (ad (15 + k)), .ref (ad (19 + k))])) ∧
  (∀ k, k < 4 → F (15 + k) = .inl (G.2.1 0, 10, .inl (V (20 + k)))) ∧
  (∀ k, k < 4 → F (19 + k) = .inl (G.2.1 0, 10, .inl (V (24 + k)))) ∧
  (∀ k, k < nc → F (100 + k) = .inr (0, [.int (nI k), .int (V 0 k), .int (V 1 k), .int (V 2 k), .int (V 3 k), .int (V 4 k), .int (V 5 k), .int (V 6 k)])) ∧
  (∀ k, k < nr → F (200 + k) = .inr (2, [.int (nI k), .int (V 7 k), .int (V 8 k), .int (V 9 k), .int (V 10 k), .int (V 11 k), .int (V 12 k)])) ∧
  (∀ i, i < 23 → N i) ∧
  (∀ k, k < nc → N (100 + k)) ∧
  (∀ k, k < nr → N (200 + k))
theorem ck_C.nc {G : ck_G} {ad : Nat → Nat} {V : Nat → Nat → Int32} {L : Nat → Nat → Int64} {nc nr : Nat} {N : Nat → Prop} {F : Nat → va_E} (h : ck_C G ad V L nc nr N F) : nc ≤ 60 := h.1
theorem ck_C.nr {G : ck_G} {ad : Nat → Nat} {V : Nat → Nat → Int32} {L : Nat → Nat → Int64} {nc nr : Nat} {N : Nat → Prop} {F : Nat → va_E} (h : ck_C G ad V L nc nr N F) : nr ≤ 30 := h.2.1
theorem ck_C.f0 {G : ck_G} {ad : Nat → Nat} {V : Nat → Nat → Int32} {L : Nat → Nat → Int64} {nc nr : Nat} {N : Nat → Prop} {F : Nat → va_E} (h : ck_C G ad V L nc nr N F) : F 0 = .inr (4, [.ref (ad 1), .ref (ad 2), .int (nI nc), .int (V 13 0), .ref (ad 3), .int (nI nr), .int (V 13 1), .ref (ad 4)]) := h.2.2.1
theorem ck_C.f1 {G : ck_G} {ad : Nat → Nat} {V : Nat → Nat → Int32} {L : Nat → Nat → Int64} {nc nr : Nat} {N : Nat → Prop} {F : Nat → va_E} (h : ck_C G ad V L nc nr N F) : ∃ f, F 1 = .inl (G.2.1 5, 3, .inr (.inr (.inr (.inr f)))) ∧ ∀ k, k < 3 → f k = some (ad (5 + k)) := h.2.2.2.1
theorem ck_C.f2 {G : ck_G} {ad : Nat → Nat} {V : Nat → Nat → Int32} {L : Nat → Nat → Int64} {nc nr : Nat} {N : Nat → Prop} {F : Nat → va_E} (h : ck_C G ad V L nc nr N F) : ∃ f, F 2 = .inl (G.2.1 2, 60, .inr (.inr (.inr (.inr f)))) ∧ ∀ k, k < 60 → f k = if k < nc then some (ad (100 + k)) else none := h.2.2.2.2.1
theorem ck_C.f3 {G : ck_G} {ad : Nat → Nat} {V : Nat → Nat → Int32} {L : Nat → Nat → Int64} {nc nr : Nat} {N : Nat → Prop} {F : Nat → va_E} (h : ck_C G ad V L nc nr N F) : ∃ f, F 3 = .inl (G.2.1 4, 30, .inr (.inr (.inr (.inr f)))) ∧ ∀ k, k < 30 → f k = if k < nr then some (ad (200 + k)) else none := h.2.2.2.2.2.1
theorem ck_C.f4 {G : ck_G} {ad : Nat → Nat} {V : Nat → Nat → Int32} {L : Nat → Nat → Int64} {nc nr : Nat} {N : Nat → Prop} {F : Nat → va_E} (h : ck_C G ad V L nc nr N F) : ∃ f, F 4 = .inl (G.2.1 3, 4, .inr (.inr (.inr (.inr f)))) ∧ ∀ k, k < 4 → f k = some (ad (11 + k)) := h.2.2.2.2.2.2.1
theorem ck_C.src {G : ck_G} {ad : Nat → Nat} {V : Nat → Nat → Int32} {L : Nat → Nat → Int64} {nc nr : Nat} {N : Nat → Prop} {F : Nat → va_E} (h : ck_C G ad V L nc nr N F) : ∀ k, k < 3 → F (5 + k) = .inr (3, [.ref (ad (8 + k)), .int (V 14 k), .int (V 16 k), .int (V 17 k), .int (V 15 k)]) := h.2.2.2.2.2.2.2.1
theorem ck_C.del {G : ck_G} {ad : Nat → Nat} {V : Nat → Nat → Int32} {L : Nat → Nat → Int64} {nc nr : Nat} {N : Nat → Prop} {F : Nat → va_E} (h : ck_C G ad V L nc nr N F) : ∀ k, k < 3 → F (8 + k) = .inl (G.2.1 1, 157, .inr (.inl (L k))) := h.2.2.2.2.2.2.2.2.1
theorem ck_C.car {G : ck_G} {ad : Nat → Nat} {V : Nat → Nat → Int32} {L : Nat → Nat → Int64} {nc nr : Nat} {N : Nat → Prop} {F : Nat → va_E} (h : ck_C G ad V L nc nr N F) : ∀ k, k < 4 → F (11 + k) = .inr (1, [.ref (ad (15 + k)), .ref (ad (19 + k))]) := h.2.2.2.2.2.2.2.2.2.1
theorem ck_C.pre {G : ck_G} {ad : Nat → Nat} {V : Nat → Nat → Int32} {L : Nat → Nat → Int64} {nc nr : Nat} {N : Nat → Prop} {F : Nat → va_E} (h : ck_C G ad V L nc nr N F) : ∀ k, k < 4 → F (15 + k) = .inl (G.2.1 0, 10, .inl (V (20 + k))) := h.2.2.2.2.2.2.2.2.2.2.1
theorem ck_C.pri {G : ck_G} {ad : Nat → Nat} {V : Nat → Nat → Int32} {L : Nat → Nat → Int64} {nc nr : Nat} {N : Nat → Prop} {F : Nat → va_E} (h : ck_C G ad V L nc nr N F) : ∀ k, k < 4 → F (19 + k) = .inl (G.2.1 0, 10, .inl (V (24 + k))) := h.2.2.2.2.2.2.2.2.2.2.2.1
theorem ck_C.call {G : ck_G} {ad : Nat → Nat} {V : Nat → Nat → Int32} {L : Nat → Nat → Int64} {nc nr : Nat} {N : Nat → Prop} {F : Nat → va_E} (h : ck_C G ad V L nc nr N F) : ∀ k, k < nc → F (100 + k) = .inr (0, [.int (nI k), .int (V 0 k), .int (V 1 k), .int (V 2 k), .int (V 3 k), .int (V 4 k), .int (V 5 k), .int (V 6 k)]) := h.2.2.2.2.2.2.2.2.2.2.2.2.1
theorem ck_C.rate {G : ck_G} {ad : Nat → Nat} {V : Nat → Nat → Int32} {L : Nat → Nat → Int64} {nc nr : Nat} {N : Nat → Prop} {F : Nat → va_E} (h : ck_C G ad V L nc nr N F) : ∀ k, k < nr → F (200 + k) = .inr (2, [.int (nI k), .int (V 7 k), .int (V 8 k), .int (V 9 k), .int (V 10 k), .int (V 11 k), .int (V 12 k)]) := h.2.2.2.2.2.2.2.2.2.2.2.2.2.1
theorem ck_C.n {G : ck_G} {ad : Nat → Nat} {V : Nat → Nat → Int32} {L : Nat → Nat → Int64} {nc nr : Nat} {N : Nat → Prop} {F : Nat → va_E} (h : ck_C G ad V L nc nr N F) : ∀ i, i < 23 → N i := h.2.2.2.2.2.2.2.2.2.2.2.2.2.2.1
theorem ck_C.ncall {G : ck_G} {ad : Nat → Nat} {V : Nat → Nat → Int32} {L : Nat → Nat → Int64} {nc nr : Nat} {N : Nat → Prop} {F : Nat → va_E} (h : ck_C G ad V L nc nr N F) : ∀ k, k < nc → N (100 + k) := h.2.2.2.2.2.2.2.2.2.2.2.2.2.2.2.1
theorem ck_C.nrate {G : ck_G} {ad : Nat → Nat} {V : Nat → Nat → Int32} {L : Nat → Nat → Int64} {nc nr : Nat} {N : Nat → Prop} {F : Nat → va_E} (h : ck_C G ad V L nc nr N F) : ∀ k, k < nr → N (200 + k) := h.2.2.2.2.2.2.2.2.2.2.2.2.2.2.2.2
def ck_M (G : ck_G) (ad : Nat → Nat) (V : Nat → Nat → Int32) (L : Nat → Nat → Int64) (nc nr : Nat) (t : Int32) (N : Nat → Prop) (F : Nat → va_E) : Prop :=
  (nc ≤ 60) ∧
  (nr ≤ 30) ∧
  (F 30 = .inr (5, [.int (V 13 0), .ref (ad 31), .ref (ad 32), .ref (ad 33), .ref (ad 34), .ref (ad 35), .int (nI nc), .ref (ad 36), .ref (ad 37), .ref (ad 38), .ref (ad 39), .ref (ad 40), .ref (ad 41), .ref (ad 42), .int (V 13 1), .int (nI nr), .ref (ad 43), .ref (ad 44), .ref (ad 45), .ref (ad 46), .ref (ad 47), .ref (ad 48), .ref (ad 49), .ref (ad 50), .ref (ad 51), .int t])) ∧
  (∃ f, F 31 = .inl (G.2.1 1, 471, .inr (.inl f)) ∧ ∀ q w, q < 3 → w < 157 → f (157 * q + w) = L q w) ∧
  (F 32 = .inl (G.2.1 0, 3, .inl (V 14))) ∧
  (F 33 = .inl (G.2.1 0, 3, .inl (V 18))) ∧
  (F 34 = .inl (G.2.1 0, 3, .inl (V 19))) ∧
  (F 35 = .inl (G.2.1 0, 3, .inl (V 15))) ∧
  (F 36 = .inl (G.2.1 0, 60, .inl (V 0))) ∧
  (F 37 = .inl (G.2.1 0, 60, .inl (V 1))) ∧
  (F 38 = .inl (G.2.1 0, 60, .inl (V 2))) ∧
  (F 39 = .inl (G.2.1 0, 60, .inl (V 4))) ∧
  (F 40 = .inl (G.2.1 0, 60, .inl (V 3))) ∧
  (F 41 = .inl (G.2.1 0, 60, .inl (V 5))) ∧
  (F 42 = .inl (G.2.1 0, 60, .inl (V 6))) ∧
  (F 43 = .inl (G.2.1 0, 30, .inl (V 7))) ∧
  (F 44 = .inl (G.2.1 0, 30, .inl (V 8))) ∧
  (F 45 = .inl (G.2.1 0, 30, .inl (V 9))) ∧
  (F 46 = .inl (G.2.1 0, 30, .inl (V 10))) ∧
  (F 47 = .inl (G.2.1 0, 30, .inl (V 11))) ∧
  (F 48 = .inl (G.2.1 0, 30, .inl (V 12))) ∧
  (F 49 = .inl (G.2.1 0, 4, .inl (V 28))) ∧
  (F 50 = .inl (G.2.1 0, 40, .inl (V 29))) ∧
  (F 51 = .inl (G.2.1 0, 40, .inl (V 30))) ∧
  (∀ i, 30 ≤ i → i < 52 → N i)
theorem ck_M.nc {G : ck_G} {ad : Nat → Nat} {V : Nat → Nat → Int32} {L : Nat → Nat → Int64} {nc nr : Nat} {t : Int32} {N : Nat → Prop} {F : Nat → va_E} (h : ck_M G ad V L nc nr t N F) : nc ≤ 60 := h.1
theorem ck_M.nr {G : ck_G} {ad : Nat → Nat} {V : Nat → Nat → Int32} {L : Nat → Nat → Int64} {nc nr : Nat} {t : Int32} {N : Nat → Prop} {F : Nat → va_E} (h : ck_M G ad V L nc nr t N F) : nr ≤ 30 := h.2.1
theorem ck_M.f30 {G : ck_G} {ad : Nat → Nat} {V : Nat → Nat → Int32} {L : Nat → Nat → Int64} {nc nr : Nat} {t : Int32} {N : Nat → Prop} {F : Nat → va_E} (h : ck_M G ad V L nc nr t N F) : F 30 = .inr (5, [.int (V 13 0), .ref (ad 31), .ref (ad 32), .ref (ad 33), .ref (ad 34), .ref (ad 35), .int (nI nc), .ref (ad 36), .ref (ad 37), .ref (ad 38), .ref (ad 39), .ref (ad 40), .ref (ad 41), .ref (ad 42), .int (V 13 1), .int (nI nr), .ref (ad 43), .ref (ad 44), .ref (ad 45), .ref (ad 46), .ref (ad 47), .ref (ad 48), .ref (ad 49), .ref (ad 50), .ref (ad 51), .int t]) := h.2.2.1
theorem ck_M.f31 {G : ck_G} {ad : Nat → Nat} {V : Nat → Nat → Int32} {L : Nat → Nat → Int64} {nc nr : Nat} {t : Int32} {N : Nat → Prop} {F : Nat → va_E} (h : ck_M G ad V L nc nr t N F) : ∃ f, F 31 = .inl (G.2.1 1, 471, .inr (.inl f)) ∧ ∀ q w, q < 3 → w < 157 → f (157 * q + w) = L q w := h.2.2.2.1
theorem ck_M.f32 {G : ck_G} {ad : Nat → Nat} {V : Nat → Nat → Int32} {L : Nat → Nat → Int64} {nc nr : Nat} {t : Int32} {N : Nat → Prop} {F : Nat → va_E} (h : ck_M G ad V L nc nr t N F) : F 32 = .inl (G.2.1 0, 3, .inl (V 14)) := h.2.2.2.2.1
theorem ck_M.f33 {G : ck_G} {ad : Nat → Nat} {V : Nat → Nat → Int32} {L : Nat → Nat → Int64} {nc nr : Nat} {t : Int32} {N : Nat → Prop} {F : Nat → va_E} (h : ck_M G ad V L nc nr t N F) : F 33 = .inl (G.2.1 0, 3, .inl (V 18)) := h.2.2.2.2.2.1
theorem ck_M.f34 {G : ck_G} {ad : Nat → Nat} {V : Nat → Nat → Int32} {L : Nat → Nat → Int64} {nc nr : Nat} {t : Int32} {N : Nat → Prop} {F : Nat → va_E} (h : ck_M G ad V L nc nr t N F) : F 34 = .inl (G.2.1 0, 3, .inl (V 19)) := h.2.2.2.2.2.2.1
theorem ck_M.f35 {G : ck_G} {ad : Nat → Nat} {V : Nat → Nat → Int32} {L : Nat → Nat → Int64} {nc nr : Nat} {t : Int32} {N : Nat → Prop} {F : Nat → va_E} (h : ck_M G ad V L nc nr t N F) : F 35 = .inl (G.2.1 0, 3, .inl (V 15)) := h.2.2.2.2.2.2.2.1
theorem ck_M.f36 {G : ck_G} {ad : Nat → Nat} {V : Nat → Nat → Int32} {L : Nat → Nat → Int64} {nc nr : Nat} {t : Int32} {N : Nat → Prop} {F : Nat → va_E} (h : ck_M G ad V L nc nr t N F) : F 36 = .inl (G.2.1 0, 60, .inl (V 0)) := h.2.2.2.2.2.2.2.2.1
theorem ck_M.f37 {G : ck_G} {ad : Nat → Nat} {V : Nat → Nat → Int32} {L : Nat → Nat → Int64} {nc nr : Nat} {t : Int32} {N : Nat → Prop} {F : Nat → va_E} (h : ck_M G ad V L nc nr t N F) : F 37 = .inl (G.2.1 0, 60, .inl (V 1)) := h.2.2.2.2.2.2.2.2.2.1
theorem ck_M.f38 {G : ck_G} {ad : Nat → Nat} {V : Nat → Nat → Int32} {L : Nat → Nat → Int64} {nc nr : Nat} {t : Int32} {N : Nat → Prop} {F : Nat → va_E} (h : ck_M G ad V L nc nr t N F) : F 38 = .inl (G.2.1 0, 60, .inl (V 2)) := h.2.2.2.2.2.2.2.2.2.2.1
theorem ck_M.f39 {G : ck_G} {ad : Nat → Nat} {V : Nat → Nat → Int32} {L : Nat → Nat → Int64} {nc nr : Nat} {t : Int32} {N : Nat → Prop} {F : Nat → va_E} (h : ck_M G ad V L nc nr t N F) : F 39 = .inl (G.2.1 0, 60, .inl (V 4)) := h.2.2.2.2.2.2.2.2.2.2.2.1
theorem ck_M.f40 {G : ck_G} {ad : Nat → Nat} {V : Nat → Nat → Int32} {L : Nat → Nat → Int64} {nc nr : Nat} {t : Int32} {N : Nat → Prop} {F : Nat → va_E} (h : ck_M G ad V L nc nr t N F) : F 40 = .inl (G.2.1 0, 60, .inl (V 3)) := h.2.2.2.2.2.2.2.2.2.2.2.2.1
theorem ck_M.f41 {G : ck_G} {ad : Nat → Nat} {V : Nat → Nat → Int32} {L : Nat → Nat → Int64} {nc nr : Nat} {t : Int32} {N : Nat → Prop} {F : Nat → va_E} (h : ck_M G ad V L nc nr t N F) : F 41 = .inl (G.2.1 0, 60, .inl (V 5)) := h.2.2.2.2.2.2.2.2.2.2.2.2.2.1
theorem ck_M.f42 {G : ck_G} {ad : Nat → Nat} {V : Nat → Nat → Int32} {L : Nat → Nat → Int64} {nc nr : Nat} {t : Int32} {N : Nat → Prop} {F : Nat → va_E} (h : ck_M G ad V L nc nr t N F) : F 42 = .inl (G.2.1 0, 60, .inl (V 6)) := h.2.2.2.2.2.2.2.2.2.2.2.2.2.2.1
theorem ck_M.f43 {G : ck_G} {ad : Nat → Nat} {V : Nat → Nat → Int32} {L : Nat → Nat → Int64} {nc nr : Nat} {t : Int32} {N : Nat → Prop} {F : Nat → va_E} (h : ck_M G ad V L nc nr t N F) : F 43 = .inl (G.2.1 0, 30, .inl (V 7)) := h.2.2.2.2.2.2.2.2.2.2.2.2.2.2.2.1
theorem ck_M.f44 {G : ck_G} {ad : Nat → Nat} {V : Nat → Nat → Int32} {L : Nat → Nat → Int64} {nc nr : Nat} {t : Int32} {N : Nat → Prop} {F : Nat → va_E} (h : ck_M G ad V L nc nr t N F) : F 44 = .inl (G.2.1 0, 30, .inl (V 8)) := h.2.2.2.2.2.2.2.2.2.2.2.2.2.2.2.2.1
theorem ck_M.f45 {G : ck_G} {ad : Nat → Nat} {V : Nat → Nat → Int32} {L : Nat → Nat → Int64} {nc nr : Nat} {t : Int32} {N : Nat → Prop} {F : Nat → va_E} (h : ck_M G ad V L nc nr t N F) : F 45 = .inl (G.2.1 0, 30, .inl (V 9)) := h.2.2.2.2.2.2.2.2.2.2.2.2.2.2.2.2.2.1
theorem ck_M.f46 {G : ck_G} {ad : Nat → Nat} {V : Nat → Nat → Int32} {L : Nat → Nat → Int64} {nc nr : Nat} {t : Int32} {N : Nat → Prop} {F : Nat → va_E} (h : ck_M G ad V L nc nr t N F) : F 46 = .inl (G.2.1 0, 30, .inl (V 10)) := h.2.2.2.2.2.2.2.2.2.2.2.2.2.2.2.2.2.2.1
theorem ck_M.f47 {G : ck_G} {ad : Nat → Nat} {V : Nat → Nat → Int32} {L : Nat → Nat → Int64} {nc nr : Nat} {t : Int32} {N : Nat → Prop} {F : Nat → va_E} (h : ck_M G ad V L nc nr t N F) : F 47 = .inl (G.2.1 0, 30, .inl (V 11)) := h.2.2.2.2.2.2.2.2.2.2.2.2.2.2.2.2.2.2.2.1
theorem ck_M.f48 {G : ck_G} {ad : Nat → Nat} {V : Nat → Nat → Int32} {L : Nat → Nat → Int64} {nc nr : Nat} {t : Int32} {N : Nat → Prop} {F : Nat → va_E} (h : ck_M G ad V L nc nr t N F) : F 48 = .inl (G.2.1 0, 30, .inl (V 12)) := h.2.2.2.2.2.2.2.2.2.2.2.2.2.2.2.2.2.2.2.2.1
theorem ck_M.f49 {G : ck_G} {ad : Nat → Nat} {V : Nat → Nat → Int32} {L : Nat → Nat → Int64} {nc nr : Nat} {t : Int32} {N : Nat → Prop} {F : Nat → va_E} (h : ck_M G ad V L nc nr t N F) : F 49 = .inl (G.2.1 0, 4, .inl (V 28)) := h.2.2.2.2.2.2.2.2.2.2.2.2.2.2.2.2.2.2.2.2.2.1
theorem ck_M.f50 {G : ck_G} {ad : Nat → Nat} {V : Nat → Nat → Int32} {L : Nat → Nat → Int64} {nc nr : Nat} {t : Int32} {N : Nat → Prop} {F : Nat → va_E} (h : ck_M G ad V L nc nr t N F) : F 50 = .inl (G.2.1 0, 40, .inl (V 29)) := h.2.2.2.2.2.2.2.2.2.2.2.2.2.2.2.2.2.2.2.2.2.2.1
theorem ck_M.f51 {G : ck_G} {ad : Nat → Nat} {V : Nat → Nat → Int32} {L : Nat → Nat → Int64} {nc nr : Nat} {t : Int32} {N : Nat → Prop} {F : Nat → va_E} (h : ck_M G ad V L nc nr t N F) : F 51 = .inl (G.2.1 0, 40, .inl (V 30)) := h.2.2.2.2.2.2.2.2.2.2.2.2.2.2.2.2.2.2.2.2.2.2.2.1
theorem ck_M.n {G : ck_G} {ad : Nat → Nat} {V : Nat → Nat → Int32} {L : Nat → Nat → Int64} {nc nr : Nat} {t : Int32} {N : Nat → Prop} {F : Nat → va_E} (h : ck_M G ad V L nc nr t N F) : ∀ i, 30 ≤ i → i < 52 → N i := h.2.2.2.2.2.2.2.2.2.2.2.2.2.2.2.2.2.2.2.2.2.2.2.2
def ck_ok (x : Int32) (n : Nat) : Prop := 0 ≤ x ∧ x < nI n
theorem ck_ok_neg {x : Int32} {n : Nat} (h : x < 0) : ¬ ck_ok x n := fun z => absurd z.1 (Int32.not_le.mpr h)
theorem ck_ok_big {x : Int32} {n m : Nat} (h : nI m ≤ x) (hm : m < 2 ^ 31) (hn : n ≤ m) : ¬ ck_ok x n := fun z => by
  have h1 := z.2
  have h2 : nI n ≤ nI m := nI_le hn hm
  exact absurd (Int32.lt_of_lt_of_le h1 (Int32.le_trans h2 h)) Int32.lt_irrefl
theorem ck_ok_of {x : Int32} {n : Nat} (h : ¬ x < 0) (h2 : ¬ nI n ≤ x) (hn : n < 2 ^ 31) : ∃ j, j < n ∧ x = nI j := by
  rcases pk_ix x hn with h3 | h3 | h3
  · exact absurd h3 h
  · exact absurd h3 h2
  · exact h3
theorem ck_ok_nI {j n : Nat} (h : j < n) (hn : n < 2 ^ 31) : ck_ok (nI j) n := ⟨nI_pos' (by omega), nI_lt h hn⟩
set_option maxHeartbeats 4000000 in
set_option maxRecDepth 100000 in
theorem ct_X4_sourceAt (l : Launch) (G : ck_G) (H : Heap) (ad : Nat → Nat) (N : Nat → Prop) (F : Nat → va_E) (hW : ck_W G ad N F H) (V : Nat → Nat → Int32) (L : Nat → Nat → Int64) (nc nr : Nat) (hC : ck_C G ad V L nc nr N F) (a0 : Int32) : Met l yX4_sourceAt wsX4_sourceAt ({ frames := 0, cells := 0, slots := 0, locals := 0 }) (ck_P G H [.ref (ad 0), .int a0]) (va_Sq (fun r => (∃ j, j < 3 ∧ a0 = nI j ∧ r = some (ad (5 + j))) ∨ (¬ ck_ok a0 3 ∧ r = none))) 0 0 (fun _ => False) := by
  refine Met.ofW (cc := cX4_sourceAt) (maxL := 2) (ret := (some (.object "CarrierDesk$Source"))) (by decide) rfl ?_
  intro p e s m args below meth c s₁ B hml hv
  obtain ⟨rfl, hH, hKK⟩ := hv
  subst hH
  have hx := B.exec
  have hb := B.bytes
  have hr := B.returns
  have hts := atoms_spec (ws := wsX4_sourceAt) B.pre
  have hown : s.vm.findClass RX4 = some m.cls := findClass_of_methodNamed B.named
  have hlocks := B.notSynchronized
  have hKK0 := hKK
  have hK := hKK.1.1
  have hinX4 : ∀ w ∈ u_ws RX4 TX4 8, w ∈ wsX4_sourceAt := by decide +kernel
  have hl := lv_entry ([.ref (ad 0), .int a0]) (n := 2) (Nat.le_of_ble_eq_true rfl)
  rw [lg_entry_eq]
  generalize (lg_sl ([.ref (ad 0), .int a0]) ++ List.replicate (2 - (lg_sl ([.ref (ad 0), .int a0])).length) Slot.unset).toArray = ls at hl ⊢
  have hl : lv_has ls 2 [(0, .ref (ad 0)), (1, .int a0)] := hl
  obtain ⟨g1, hG1, hg1⟩ := hC.f1
  refine lv_iload_n hx hb dX4_sourceAt_0 rfl (lv_at hl 1 rfl) ?_
  refine lv_if_lt (tgt := 22) hx hb dX4_sourceAt_1 (by decide) (fun c_1 => ?_) (fun c_1 => ?_)
  · skip
    refine lv_null hx hb dX4_sourceAt_22 ?_
    exact W.aret (v := va_rf (none)) hx hb hr (Or.inl ⟨_, rfl⟩) (va_rf_or _) (fun t ht hW9 => ⟨none, rfl, Or.inr ⟨ck_ok_neg c_1, rfl⟩, ht⟩) (fun _ h => nomatch h) dX4_sourceAt_23
  · skip
    refine lv_iload_n hx hb dX4_sourceAt_4 rfl (lv_at hl 1 rfl) ?_
    refine lv_aload_n hx hb dX4_sourceAt_5 rfl (lv_at hl 0 rfl) ?_
    refine ck_get (v := .ref (ad 1)) hx hb hts hinX4 hown hK hW (hC.n 0 (by decide)) hC.f0 rfl 0 (by decide) (hts _ (List.mem_of_getElem? (i := 1) rfl)) rfl rfl dX4_sourceAt_6 ?_
    refine ck_alen (v := 3) hx hb hK hW (hC.n 1 (by decide)) hG1 5 rfl rfl dX4_sourceAt_9 ?_
    refine lv_icmp_ge (tgt := 22) hx hb dX4_sourceAt_10 (by decide) (fun c_10 => ?_) (fun c_10 => ?_)
    · skip
      refine lv_null hx hb dX4_sourceAt_22 ?_
      exact W.aret (v := va_rf (none)) hx hb hr (Or.inl ⟨_, rfl⟩) (va_rf_or _) (fun t ht hW9 => ⟨none, rfl, Or.inr ⟨ck_ok_big (m := 3) c_10 (by decide) (by decide), rfl⟩, ht⟩) (fun _ h => nomatch h) dX4_sourceAt_23
    · skip
      refine lv_aload_n hx hb dX4_sourceAt_13 rfl (lv_at hl 0 rfl) ?_
      refine ck_get (v := .ref (ad 1)) hx hb hts hinX4 hown hK hW (hC.n 0 (by decide)) hC.f0 rfl 0 (by decide) (hts _ (List.mem_of_getElem? (i := 1) rfl)) rfl rfl dX4_sourceAt_14 ?_
      refine lv_iload_n hx hb dX4_sourceAt_17 rfl (lv_at hl 1 rfl) ?_
      obtain ⟨j, hj, rfl⟩ := ck_ok_of c_1 c_10 (n := 3) (by decide)
      refine ck_aald hx hb hK hW (hC.n 1 (by decide)) hG1 5 rfl j (rfl) (hj) (by decide) (r := some (ad (5 + j))) (hg1 j hj) dX4_sourceAt_18 ?_
      refine lv_goto (tgt := 23) hx hb dX4_sourceAt_19 (by decide) ?_
      exact W.aret (v := va_rf (some ((ad (5 + j))))) hx hb hr (Or.inl ⟨_, rfl⟩) (va_rf_or _) (fun t ht hW9 => ⟨some ((ad (5 + j))), rfl, Or.inl ⟨j, hj, rfl, rfl⟩, ht⟩) (fun _ h => nomatch h) dX4_sourceAt_23
set_option maxHeartbeats 4000000 in
set_option maxRecDepth 100000 in
theorem ct_X4_callAt (l : Launch) (G : ck_G) (H : Heap) (ad : Nat → Nat) (N : Nat → Prop) (F : Nat → va_E) (hW : ck_W G ad N F H) (V : Nat → Nat → Int32) (L : Nat → Nat → Int64) (nc nr : Nat) (hC : ck_C G ad V L nc nr N F) (a0 : Int32) : Met l yX4_callAt wsX4_callAt ({ frames := 0, cells := 0, slots := 0, locals := 0 }) (ck_P G H [.ref (ad 0), .int a0]) (va_Sq (fun r => (∃ j, j < nc ∧ a0 = nI j ∧ r = some (ad (100 + j))) ∨ (¬ ck_ok a0 nc ∧ r = none))) 0 0 (fun _ => False) := by
  refine Met.ofW (cc := cX4_callAt) (maxL := 2) (ret := (some (.object "CarrierDesk$Call"))) (by decide) rfl ?_
  intro p e s m args below meth c s₁ B hml hv
  obtain ⟨rfl, hH, hKK⟩ := hv
  subst hH
  have hx := B.exec
  have hb := B.bytes
  have hr := B.returns
  have hts := atoms_spec (ws := wsX4_callAt) B.pre
  have hown : s.vm.findClass RX4 = some m.cls := findClass_of_methodNamed B.named
  have hlocks := B.notSynchronized
  have hKK0 := hKK
  have hK := hKK.1.1
  have hinX4 : ∀ w ∈ u_ws RX4 TX4 8, w ∈ wsX4_callAt := by decide +kernel
  have hl := lv_entry ([.ref (ad 0), .int a0]) (n := 2) (Nat.le_of_ble_eq_true rfl)
  rw [lg_entry_eq]
  generalize (lg_sl ([.ref (ad 0), .int a0]) ++ List.replicate (2 - (lg_sl ([.ref (ad 0), .int a0])).length) Slot.unset).toArray = ls at hl ⊢
  have hl : lv_has ls 2 [(0, .ref (ad 0)), (1, .int a0)] := hl
  obtain ⟨g2, hG2, hg2⟩ := hC.f2
  refine lv_iload_n hx hb dX4_callAt_0 rfl (lv_at hl 1 rfl) ?_
  refine lv_if_lt (tgt := 22) hx hb dX4_callAt_1 (by decide) (fun c_1 => ?_) (fun c_1 => ?_)
  · skip
    refine lv_null hx hb dX4_callAt_22 ?_
    exact W.aret (v := va_rf (none)) hx hb hr (Or.inl ⟨_, rfl⟩) (va_rf_or _) (fun t ht hW9 => ⟨none, rfl, Or.inr ⟨ck_ok_neg c_1, rfl⟩, ht⟩) (fun _ h => nomatch h) dX4_callAt_23
  · skip
    refine lv_iload_n hx hb dX4_callAt_4 rfl (lv_at hl 1 rfl) ?_
    refine lv_aload_n hx hb dX4_callAt_5 rfl (lv_at hl 0 rfl) ?_
    refine ck_get (v := .ref (ad 2)) hx hb hts hinX4 hown hK hW (hC.n 0 (by decide)) hC.f0 rfl 1 (by decide) (hts _ (List.mem_of_getElem? (i := 1) rfl)) rfl rfl dX4_callAt_6 ?_
    refine ck_alen (v := 60) hx hb hK hW (hC.n 2 (by decide)) hG2 2 rfl rfl dX4_callAt_9 ?_
    refine lv_icmp_ge (tgt := 22) hx hb dX4_callAt_10 (by decide) (fun c_10 => ?_) (fun c_10 => ?_)
    · skip
      refine lv_null hx hb dX4_callAt_22 ?_
      exact W.aret (v := va_rf (none)) hx hb hr (Or.inl ⟨_, rfl⟩) (va_rf_or _) (fun t ht hW9 => ⟨none, rfl, Or.inr ⟨ck_ok_big (m := 60) c_10 (by decide) hC.nc, rfl⟩, ht⟩) (fun _ h => nomatch h) dX4_callAt_23
    · skip
      refine lv_aload_n hx hb dX4_callAt_13 rfl (lv_at hl 0 rfl) ?_
      refine ck_get (v := .ref (ad 2)) hx hb hts hinX4 hown hK hW (hC.n 0 (by decide)) hC.f0 rfl 1 (by decide) (hts _ (List.mem_of_getElem? (i := 1) rfl)) rfl rfl dX4_callAt_14 ?_
      refine lv_iload_n hx hb dX4_callAt_17 rfl (lv_at hl 1 rfl) ?_
      obtain ⟨j, hj, rfl⟩ := ck_ok_of c_1 c_10 (n := 60) (by decide)
      by_cases hjn : j < nc
      · skip
        refine ck_aald hx hb hK hW (hC.n 2 (by decide)) hG2 2 rfl j (rfl) (hj) (by decide) (r := some (ad (100 + j))) (by rw [hg2 j hj, if_pos hjn]) dX4_callAt_18 ?_
        refine lv_goto (tgt := 23) hx hb dX4_callAt_19 (by decide) ?_
        exact W.aret (v := va_rf (some ((ad (100 + j))))) hx hb hr (Or.inl ⟨_, rfl⟩) (va_rf_or _) (fun t ht hW9 => ⟨some ((ad (100 + j))), rfl, Or.inl ⟨j, hjn, rfl, rfl⟩, ht⟩) (fun _ h => nomatch h) dX4_callAt_23
      · skip
        refine ck_aald hx hb hK hW (hC.n 2 (by decide)) hG2 2 rfl j (rfl) (hj) (by decide) (r := none) (by rw [hg2 j hj, if_neg hjn]) dX4_callAt_18 ?_
        refine lv_goto (tgt := 23) hx hb dX4_callAt_19 (by decide) ?_
        exact W.aret (v := va_rf (none)) hx hb hr (Or.inl ⟨_, rfl⟩) (va_rf_or _) (fun t ht hW9 => ⟨none, rfl, Or.inr ⟨fun z => hjn ((nI_ltI (by omega) (by have := hC.nc; omega)).mp z.2), rfl⟩, ht⟩) (fun _ h => nomatch h) dX4_callAt_23
set_option maxHeartbeats 4000000 in
set_option maxRecDepth 100000 in
theorem ct_X4_carrierAt (l : Launch) (G : ck_G) (H : Heap) (ad : Nat → Nat) (N : Nat → Prop) (F : Nat → va_E) (hW : ck_W G ad N F H) (V : Nat → Nat → Int32) (L : Nat → Nat → Int64) (nc nr : Nat) (hC : ck_C G ad V L nc nr N F) (a0 : Int32) : Met l yX4_carrierAt wsX4_carrierAt ({ frames := 0, cells := 0, slots := 0, locals := 0 }) (ck_P G H [.ref (ad 0), .int a0]) (va_Sq (fun r => (∃ j, j < 4 ∧ a0 = nI j ∧ r = some (ad (11 + j))) ∨ (¬ ck_ok a0 4 ∧ r = none))) 0 0 (fun _ => False) := by
  refine Met.ofW (cc := cX4_carrierAt) (maxL := 2) (ret := (some (.object "CarrierDesk$Carrier"))) (by decide) rfl ?_
  intro p e s m args below meth c s₁ B hml hv
  obtain ⟨rfl, hH, hKK⟩ := hv
  subst hH
  have hx := B.exec
  have hb := B.bytes
  have hr := B.returns
  have hts := atoms_spec (ws := wsX4_carrierAt) B.pre
  have hown : s.vm.findClass RX4 = some m.cls := findClass_of_methodNamed B.named
  have hlocks := B.notSynchronized
  have hKK0 := hKK
  have hK := hKK.1.1
  have hinX4 : ∀ w ∈ u_ws RX4 TX4 8, w ∈ wsX4_carrierAt := by decide +kernel
  have hl := lv_entry ([.ref (ad 0), .int a0]) (n := 2) (Nat.le_of_ble_eq_true rfl)
  rw [lg_entry_eq]
  generalize (lg_sl ([.ref (ad 0), .int a0]) ++ List.replicate (2 - (lg_sl ([.ref (ad 0), .int a0])).length) Slot.unset).toArray = ls at hl ⊢
  have hl : lv_has ls 2 [(0, .ref (ad 0)), (1, .int a0)] := hl
  obtain ⟨g4, hG4, hg4⟩ := hC.f4
  refine lv_iload_n hx hb dX4_carrierAt_0 rfl (lv_at hl 1 rfl) ?_
  refine lv_if_lt (tgt := 22) hx hb dX4_carrierAt_1 (by decide) (fun c_1 => ?_) (fun c_1 => ?_)
  · skip
    refine lv_null hx hb dX4_carrierAt_22 ?_
    exact W.aret (v := va_rf (none)) hx hb hr (Or.inl ⟨_, rfl⟩) (va_rf_or _) (fun t ht hW9 => ⟨none, rfl, Or.inr ⟨ck_ok_neg c_1, rfl⟩, ht⟩) (fun _ h => nomatch h) dX4_carrierAt_23
  · skip
    refine lv_iload_n hx hb dX4_carrierAt_4 rfl (lv_at hl 1 rfl) ?_
    refine lv_aload_n hx hb dX4_carrierAt_5 rfl (lv_at hl 0 rfl) ?_
    refine ck_get (v := .ref (ad 4)) hx hb hts hinX4 hown hK hW (hC.n 0 (by decide)) hC.f0 rfl 7 (by decide) (hts _ (List.mem_of_getElem? (i := 1) rfl)) rfl rfl dX4_carrierAt_6 ?_
    refine ck_alen (v := 4) hx hb hK hW (hC.n 4 (by decide)) hG4 3 rfl rfl dX4_carrierAt_9 ?_
    refine lv_icmp_ge (tgt := 22) hx hb dX4_carrierAt_10 (by decide) (fun c_10 => ?_) (fun c_10 => ?_)
    · skip
      refine lv_null hx hb dX4_carrierAt_22 ?_
      exact W.aret (v := va_rf (none)) hx hb hr (Or.inl ⟨_, rfl⟩) (va_rf_or _) (fun t ht hW9 => ⟨none, rfl, Or.inr ⟨ck_ok_big (m := 4) c_10 (by decide) (by decide), rfl⟩, ht⟩) (fun _ h => nomatch h) dX4_carrierAt_23
    · skip
      refine lv_aload_n hx hb dX4_carrierAt_13 rfl (lv_at hl 0 rfl) ?_
      refine ck_get (v := .ref (ad 4)) hx hb hts hinX4 hown hK hW (hC.n 0 (by decide)) hC.f0 rfl 7 (by decide) (hts _ (List.mem_of_getElem? (i := 1) rfl)) rfl rfl dX4_carrierAt_14 ?_
      refine lv_iload_n hx hb dX4_carrierAt_17 rfl (lv_at hl 1 rfl) ?_
      obtain ⟨j, hj, rfl⟩ := ck_ok_of c_1 c_10 (n := 4) (by decide)
      refine ck_aald hx hb hK hW (hC.n 4 (by decide)) hG4 3 rfl j (rfl) (hj) (by decide) (r := some (ad (11 + j))) (hg4 j hj) dX4_carrierAt_18 ?_
      refine lv_goto (tgt := 23) hx hb dX4_carrierAt_19 (by decide) ?_
      exact W.aret (v := va_rf (some ((ad (11 + j))))) hx hb hr (Or.inl ⟨_, rfl⟩) (va_rf_or _) (fun t ht hW9 => ⟨some ((ad (11 + j))), rfl, Or.inl ⟨j, hj, rfl, rfl⟩, ht⟩) (fun _ h => nomatch h) dX4_carrierAt_23
end
section
def ck_mt (V : Nat → Nat → Int32) (b a0 a1 a2 a3 : Int32) (k : Nat) : Bool := decide (V 0 k = a1 ∧ V 3 k &&& ((1 : Int32) <<< (a0 &&& 31)) = 0 ∧ (ck_abs (a2 - V 1 k) ≤ b ∧ ck_abs (a3 - V 2 k) ≤ b))
def ck_jn (m : Nat → Bool) : Nat → Nat → Nat
  | k, 0 => k
  | k, n + 1 => if m k = true then k else ck_jn m (k + 1) n
theorem ck_jn_go {m : Nat → Bool} {nc k z : Nat} (hk : k < nc) (hm : m k = false) (hI : ck_jn m (min k nc) (nc - k) = z) : ck_jn m (min (k + 1) nc) (nc - (k + 1)) = z := by
  rw [show min k nc = k by omega, show nc - k = (nc - (k + 1)) + 1 by omega] at hI
  rw [show min (k + 1) nc = k + 1 by omega, ← hI]; simp [ck_jn, hm]
theorem ck_jn_past {m : Nat → Bool} {nc k z : Nat} (hk : ¬ k < nc) (hI : ck_jn m (min k nc) (nc - k) = z) : ck_jn m (min (k + 1) nc) (nc - (k + 1)) = z := by
  rw [show min (k + 1) nc = min k nc by omega, show nc - (k + 1) = nc - k by omega]; exact hI
theorem ck_jn_hit {m : Nat → Bool} {nc k z : Nat} (hk : k < nc) (hm : m k = true) (hI : ck_jn m (min k nc) (nc - k) = z) : z = k := by
  rw [show min k nc = k by omega, show nc - k = (nc - (k + 1)) + 1 by omega] at hI
  rw [← hI]; simp [ck_jn, hm]
theorem ck_jn_end {m : Nat → Bool} {nc z : Nat} (hn : nc ≤ 60) (hI : ck_jn m (min 60 nc) (nc - 60) = z) : z = nc := by
  rw [show min 60 nc = nc by omega, show nc - 60 = 0 by omega] at hI
  exact hI.symm
set_option maxHeartbeats 4000000 in
set_option maxRecDepth 100000 in
theorem ct_X4_callJoinedBy (l : Launch) (G : ck_G) (H : Heap) (ad : Nat → Nat) (N : Nat → Prop) (F : Nat → va_E) (hW : ck_W G ad N F H) (V : Nat → Nat → Int32) (L : Nat → Nat → Int64) (nc nr : Nat) (hC : ck_C G ad V L nc nr N F) (a0 a1 a2 a3 : Int32) : Met l yX4_callJoinedBy wsX4_callJoinedBy ({ frames := 2, cells := 0, slots := 0, locals := 44 }) (ck_P G H [.ref (ad 0), .int a0, .int a1, .int a2, .int a3]) (va_Sq (fun r => (∃ j, j < nc ∧ ck_jn (ck_mt V (V 13 0) a0 a1 a2 a3) 0 nc = j ∧ r = some (ad (100 + j))) ∨ (ck_jn (ck_mt V (V 13 0) a0 a1 a2 a3) 0 nc = nc ∧ r = none))) 0 0 (fun _ => False) := by
  refine Met.ofW (cc := cX4_callJoinedBy) (maxL := 9) (ret := (some (.object "CarrierDesk$Call"))) (by decide) rfl ?_
  intro p e s m args below meth c s₁ B hml hv
  obtain ⟨rfl, hH, hKK⟩ := hv
  subst hH
  have hx := B.exec
  have hb := B.bytes
  have hr := B.returns
  have hts := atoms_spec (ws := wsX4_callJoinedBy) B.pre
  have hown : s.vm.findClass RX4 = some m.cls := findClass_of_methodNamed B.named
  have hlocks := B.notSynchronized
  have hKK0 := hKK
  have hK := hKK.1.1
  have hinX4 : ∀ w ∈ u_ws RX4 TX4 8, w ∈ wsX4_callJoinedBy := by decide +kernel
  have hinX0 : ∀ w ∈ u_ws RX0 TX0 8, w ∈ wsX4_callJoinedBy := by decide +kernel
  have hl := lv_entry ([.ref (ad 0), .int a0, .int a1, .int a2, .int a3]) (n := 9) (Nat.le_of_ble_eq_true rfl)
  rw [lg_entry_eq]
  generalize (lg_sl ([.ref (ad 0), .int a0, .int a1, .int a2, .int a3]) ++ List.replicate (9 - (lg_sl ([.ref (ad 0), .int a0, .int a1, .int a2, .int a3])).length) Slot.unset).toArray = ls at hl ⊢
  have hl : lv_has ls 9 [(0, .ref (ad 0)), (1, .int a0), (2, .int a1), (3, .int a2), (4, .int a3)] := hl
  obtain ⟨g2, hG2, hg2⟩ := hC.f2
  refine lv_aload_n hx hb dX4_callJoinedBy_0 rfl (lv_at hl 0 rfl) ?_
  refine ck_get (v := .ref (ad 2)) hx hb hts hinX4 hown hK hW (hC.n 0 (by decide)) hC.f0 rfl 1 (by decide) (hts _ (List.mem_of_getElem? (i := 1) rfl)) rfl rfl dX4_callJoinedBy_1 ?_
  refine lv_astore (lv' := [(5, .ref (ad 2)), (0, .ref (ad 0)), (1, .int a0), (2, .int a1), (3, .int a2), (4, .int a3)]) hx hb dX4_callJoinedBy_4 hl (by decide) rfl (fun ls hl => ?_)
  refine lv_aload hx hb dX4_callJoinedBy_6 (lv_at hl 0 rfl) ?_
  refine ck_alen (v := 60) hx hb hK hW (hC.n 2 (by decide)) hG2 2 rfl rfl dX4_callJoinedBy_8 ?_
  refine lv_istore (lv' := [(6, .int 60), (5, .ref (ad 2)), (0, .ref (ad 0)), (1, .int a0), (2, .int a1), (3, .int a2), (4, .int a3)]) hx hb dX4_callJoinedBy_9 hl (by decide) rfl (fun ls hl => ?_)
  refine lv_iconst (v := 0) hx hb dX4_callJoinedBy_11 (by decide) ?_
  refine lv_istore (lv' := [(7, .int 0), (6, .int 60), (5, .ref (ad 2)), (0, .ref (ad 0)), (1, .int a0), (2, .int a1), (3, .int a2), (4, .int a3)]) hx hb dX4_callJoinedBy_12 hl (by decide) rfl (fun ls hl => ?_)
  refine ck_loop (P := fun ls => W p l e _ s m _ below meth c _ _ _ _ _ (F0 m _ ls _)) 60 (fun k => [(7, .int (nI k)), (6, .int 60), (5, .ref (ad 2)), (0, .ref (ad 0)), (1, .int a0), (2, .int a1), (3, .int a2), (4, .int a3)]) (fun k => ck_jn (ck_mt V (V 13 0) a0 a1 a2 a3) (min k nc) (nc - k) = ck_jn (ck_mt V (V 13 0) a0 a1 a2 a3) 0 nc) (lv_sub hl [0, 1, 2, 3, 4, 5, 6, 7] rfl) (by rw [Nat.zero_min]; rfl) ?_ ?_
  · intro ls hl hI14
    have hl : lv_has ls 9 [(7, .int (nI 60)), (6, .int 60), (5, .ref (ad 2)), (0, .ref (ad 0)), (1, .int a0), (2, .int a1), (3, .int a2), (4, .int a3)] := hl
    refine lv_iload hx hb dX4_callJoinedBy_14 (lv_at hl 0 rfl) ?_
    refine lv_iload hx hb dX4_callJoinedBy_16 (lv_at hl 1 rfl) ?_
    refine lv_icmp_ge (tgt := 75) hx hb dX4_callJoinedBy_18 (by decide) (fun _ => ?_) (fun c_18 => absurd (Int32.le_refl _) c_18)
    refine lv_null hx hb dX4_callJoinedBy_75 ?_
    exact W.aret (v := va_rf (none)) hx hb hr (Or.inl ⟨_, rfl⟩) (va_rf_or _) (fun t ht hW9 => ⟨none, rfl, Or.inr ⟨ck_jn_end hC.nc hI14, rfl⟩, ht⟩) (fun _ h => nomatch h) dX4_callJoinedBy_76
  · intro k14 hk14 hI14 ih14 ls hl
    have hl : lv_has ls 9 [(7, .int (nI k14)), (6, .int 60), (5, .ref (ad 2)), (0, .ref (ad 0)), (1, .int a0), (2, .int a1), (3, .int a2), (4, .int a3)] := hl
    refine lv_iload hx hb dX4_callJoinedBy_14 (lv_at hl 0 rfl) ?_
    refine lv_iload hx hb dX4_callJoinedBy_16 (lv_at hl 1 rfl) ?_
    refine lv_icmp_ge (tgt := 75) hx hb dX4_callJoinedBy_18 (by decide) (fun c_18 => absurd c_18 (nI_ge hk14 (by decide))) (fun _ => ?_)
    refine lv_aload hx hb dX4_callJoinedBy_21 (lv_at hl 2 rfl) ?_
    refine lv_iload hx hb dX4_callJoinedBy_23 (lv_at hl 0 rfl) ?_
    by_cases hkn : k14 < nc
    · skip
      refine ck_aald hx hb hK hW (hC.n 2 (by decide)) hG2 2 rfl k14 (rfl) (hk14) (by decide) (r := some (ad (100 + k14))) (by rw [hg2 k14 hk14, if_pos hkn]) dX4_callJoinedBy_25 ?_
      refine lv_astore (lv' := [(8, .ref (ad (100 + k14))), (7, .int (nI k14)), (6, .int 60), (5, .ref (ad 2)), (0, .ref (ad 0)), (1, .int a0), (2, .int a1), (3, .int a2), (4, .int a3)]) hx hb dX4_callJoinedBy_26 hl (by decide) rfl (fun ls hl => ?_)
      refine lv_aload hx hb dX4_callJoinedBy_28 (lv_at hl 0 rfl) ?_
      refine lv_ifnull hx hb dX4_callJoinedBy_30 ?_
      refine lv_aload hx hb dX4_callJoinedBy_33 (lv_at hl 0 rfl) ?_
      refine ck_get (v := .int (V 0 k14)) hx hb hts hinX0 hown hK hW (hC.ncall k14 hkn) (hC.call k14 hkn) rfl 1 (by decide) (hts _ (List.mem_of_getElem? (i := 2) rfl)) rfl rfl dX4_callJoinedBy_35 ?_
      refine lv_iload_n hx hb dX4_callJoinedBy_38 rfl (lv_at hl 6 rfl) ?_
      refine lv_icmp_ne (tgt := 69) hx hb dX4_callJoinedBy_39 (by decide) (fun c_39 => ?_) (fun c_39 => ?_)
      · skip
        refine lv_iinc (v := nI (k14 + 1)) (lv' := [(7, .int (nI (k14 + 1))), (8, .ref (ad (100 + k14))), (6, .int 60), (5, .ref (ad 2)), (0, .ref (ad 0)), (1, .int a0), (2, .int a1), (3, .int a2), (4, .int a3)]) hx hb dX4_callJoinedBy_69 hl (k := 1) rfl (nI_1 k14) (by decide) rfl (fun ls hl => ?_)
        refine lv_goto (tgt := 14) hx hb dX4_callJoinedBy_72 (by decide) ?_
        exact ih14 ls (lv_sub hl [0, 2, 3, 4, 5, 6, 7, 8] rfl) (ck_jn_go hkn (decide_eq_false fun z => c_39 z.1) hI14)
      · skip
        refine lv_aload hx hb dX4_callJoinedBy_42 (lv_at hl 0 rfl) ?_
        refine lv_iload_n hx hb dX4_callJoinedBy_44 rfl (lv_at hl 5 rfl) ?_
        refine ck_cVi (As := [.int a0]) (rest := []) ⟨hx, hb, hml, hown, hts⟩ hKK (ct_X0_hasLegFrom l G s.heap ad N F hW (100 + k14) (hC.ncall k14 hkn) ((nI k14)) ((V 0 k14)) ((V 1 k14)) ((V 2 k14)) ((V 3 k14)) ((V 4 k14)) ((V 5 k14)) ((V 6 k14)) (hC.call k14 hkn) a0) (cwV 1 hts gX4_callJoinedBy_X0_hasLegFrom rfl rfl rfl (by decide +kernel) ⟨Nat.le_of_ble_eq_true rfl, Nat.le_of_ble_eq_true rfl⟩) (ck_recv hK hW (hC.ncall k14 hkn) (hC.call k14 hkn) rfl) rfl hl rfl (Nat.le_of_ble_eq_true rfl) dX4_callJoinedBy_45 ⟨Nat.le_of_ble_eq_true rfl, Nat.le_of_ble_eq_true rfl⟩ (fun r_45 h_45 => ?_)
        rcases h_45 with ⟨h_45, rfl⟩ | ⟨h_45, rfl⟩
        · skip
          refine lv_if_ne (tgt := 69) hx hb dX4_callJoinedBy_48 (by decide) (fun _ => ?_) (fun c_48 => absurd c_48 (by decide))
          refine lv_iinc (v := nI (k14 + 1)) (lv' := [(7, .int (nI (k14 + 1))), (8, .ref (ad (100 + k14))), (6, .int 60), (5, .ref (ad 2)), (0, .ref (ad 0)), (1, .int a0), (2, .int a1), (3, .int a2), (4, .int a3)]) hx hb dX4_callJoinedBy_69 hl (k := 1) rfl (nI_1 k14) (by decide) rfl (fun ls hl => ?_)
          refine lv_goto (tgt := 14) hx hb dX4_callJoinedBy_72 (by decide) ?_
          exact ih14 ls (lv_sub hl [0, 2, 3, 4, 5, 6, 7, 8] rfl) (ck_jn_go hkn (decide_eq_false fun z => h_45 z.2.1) hI14)
        · skip
          refine lv_if_ne (tgt := 69) hx hb dX4_callJoinedBy_48 (by decide) (fun c_48 => absurd (by decide) c_48) (fun _ => ?_)
          refine lv_aload hx hb dX4_callJoinedBy_51 (lv_at hl 0 rfl) ?_
          refine lv_aload_n hx hb dX4_callJoinedBy_53 rfl (lv_at hl 4 rfl) ?_
          refine ck_get (v := .int (V 13 0)) hx hb hts hinX4 hown hK hW (hC.n 0 (by decide)) hC.f0 rfl 3 (by decide) (hts _ (List.mem_of_getElem? (i := 3) rfl)) rfl rfl dX4_callJoinedBy_54 ?_
          refine lv_iload_n hx hb dX4_callJoinedBy_57 rfl (lv_at hl 7 rfl) ?_
          refine lv_iload hx hb dX4_callJoinedBy_58 (lv_at hl 8 rfl) ?_
          refine ck_cVi (As := [.int (V 13 0), .int a2, .int a3]) (rest := []) ⟨hx, hb, hml, hown, hts⟩ hKK (ct_X0_beganWithin l G s.heap ad N F hW (100 + k14) (hC.ncall k14 hkn) ((nI k14)) ((V 0 k14)) ((V 1 k14)) ((V 2 k14)) ((V 3 k14)) ((V 4 k14)) ((V 5 k14)) ((V 6 k14)) (hC.call k14 hkn) ((V 13 0)) a2 a3) (cwV 3 hts gX4_callJoinedBy_X0_beganWithin rfl rfl rfl (by decide +kernel) ⟨Nat.le_of_ble_eq_true rfl, Nat.le_of_ble_eq_true rfl⟩) (ck_recv hK hW (hC.ncall k14 hkn) (hC.call k14 hkn) rfl) rfl hl rfl (Nat.le_of_ble_eq_true rfl) dX4_callJoinedBy_60 ⟨Nat.le_of_ble_eq_true rfl, Nat.le_of_ble_eq_true rfl⟩ (fun r_60 h_60 => ?_)
          rcases h_60 with ⟨h_60, rfl⟩ | ⟨h_60, rfl⟩
          · skip
            refine lv_if_eq (tgt := 69) hx hb dX4_callJoinedBy_63 (by decide) (fun c_63 => absurd c_63 (by decide)) (fun _ => ?_)
            refine lv_aload hx hb dX4_callJoinedBy_66 (lv_at hl 0 rfl) ?_
            exact W.aret (v := va_rf (some ((ad (100 + k14))))) hx hb hr (Or.inl ⟨_, rfl⟩) (va_rf_or _) (fun t ht hW9 => ⟨some ((ad (100 + k14))), rfl, Or.inl ⟨k14, hkn, ck_jn_hit hkn (decide_eq_true ⟨c_39, Decidable.not_not.mp h_45, h_60⟩) hI14, rfl⟩, ht⟩) (fun _ h => nomatch h) dX4_callJoinedBy_68
          · skip
            refine lv_if_eq (tgt := 69) hx hb dX4_callJoinedBy_63 (by decide) (fun _ => ?_) (fun c_63 => absurd (by decide) c_63)
            refine lv_iinc (v := nI (k14 + 1)) (lv' := [(7, .int (nI (k14 + 1))), (8, .ref (ad (100 + k14))), (6, .int 60), (5, .ref (ad 2)), (0, .ref (ad 0)), (1, .int a0), (2, .int a1), (3, .int a2), (4, .int a3)]) hx hb dX4_callJoinedBy_69 hl (k := 1) rfl (nI_1 k14) (by decide) rfl (fun ls hl => ?_)
            refine lv_goto (tgt := 14) hx hb dX4_callJoinedBy_72 (by decide) ?_
            exact ih14 ls (lv_sub hl [0, 2, 3, 4, 5, 6, 7, 8] rfl) (ck_jn_go hkn (decide_eq_false fun z => h_60 z.2.2) hI14)
    · skip
      refine ck_aald hx hb hK hW (hC.n 2 (by decide)) hG2 2 rfl k14 (rfl) (hk14) (by decide) (r := none) (by rw [hg2 k14 hk14, if_neg hkn]) dX4_callJoinedBy_25 ?_
      refine lv_astoreN (lv' := [(8, .null), (7, .int (nI k14)), (6, .int 60), (5, .ref (ad 2)), (0, .ref (ad 0)), (1, .int a0), (2, .int a1), (3, .int a2), (4, .int a3)]) hx hb dX4_callJoinedBy_26 hl (by decide) rfl (fun ls hl => ?_)
      refine lv_aloadN hx hb dX4_callJoinedBy_28 (lv_at hl 0 rfl) ?_
      refine lv_ifnullN (tgt := 69) hx hb dX4_callJoinedBy_30 (by decide) ?_
      refine lv_iinc (v := nI (k14 + 1)) (lv' := [(7, .int (nI (k14 + 1))), (8, .null), (6, .int 60), (5, .ref (ad 2)), (0, .ref (ad 0)), (1, .int a0), (2, .int a1), (3, .int a2), (4, .int a3)]) hx hb dX4_callJoinedBy_69 hl (k := 1) rfl (nI_1 k14) (by decide) rfl (fun ls hl => ?_)
      refine lv_goto (tgt := 14) hx hb dX4_callJoinedBy_72 (by decide) ?_
      exact ih14 ls (lv_sub hl [0, 2, 3, 4, 5, 6, 7, 8] rfl) (ck_jn_past hkn hI14)
def ck_over (V : Nat → Nat → Int32) (k : Nat) : Option Nat → Bool
  | none => true
  | some b => decide (V 7 b < V 7 k ∨ (V 7 b = V 7 k ∧ V 8 b ≤ V 8 k))
def ck_best (V : Nat → Nat → Int32) (x d : Int32) : Nat → Option Nat
  | 0 => none
  | k + 1 => if V 8 k ≤ d ∧ ck_fit (V 7 k) x = true ∧ ck_over V k (ck_best V x d k) = true then some k else ck_best V x d k
theorem ck_best_lt {V : Nat → Nat → Int32} {x d : Int32} : ∀ {n b : Nat}, ck_best V x d n = some b → b < n
  | 0, b, h => by simp [ck_best] at h
  | n + 1, b, h => by
    by_cases c : V 8 n ≤ d ∧ ck_fit (V 7 n) x = true ∧ ck_over V n (ck_best V x d n) = true
    · simp only [ck_best, if_pos c] at h; cases h; omega
    · simp only [ck_best, if_neg c] at h; have := ck_best_lt h; omega
theorem ck_best_yes {V : Nat → Nat → Int32} {x d : Int32} {k nr : Nat} (hk : k < nr) (h1 : V 8 k ≤ d) (h2 : ck_fit (V 7 k) x = true) (h3 : ck_over V k (ck_best V x d (min k nr)) = true) : ck_best V x d (min (k + 1) nr) = some k := by
  rw [show min k nr = k by omega] at h3
  rw [show min (k + 1) nr = k + 1 by omega]
  simp only [ck_best]; rw [if_pos ⟨h1, h2, h3⟩]
theorem ck_best_no {V : Nat → Nat → Int32} {x d : Int32} {k nr : Nat} (hk : k < nr) (h : ¬ (V 8 k ≤ d ∧ ck_fit (V 7 k) x = true ∧ ck_over V k (ck_best V x d (min k nr)) = true)) : ck_best V x d (min (k + 1) nr) = ck_best V x d (min k nr) := by
  rw [show min k nr = k by omega] at h ⊢
  rw [show min (k + 1) nr = k + 1 by omega]
  simp only [ck_best]; rw [if_neg h]
theorem ck_best_past {V : Nat → Nat → Int32} {x d : Int32} {k nr : Nat} (hk : ¬ k < nr) : ck_best V x d (min (k + 1) nr) = ck_best V x d (min k nr) := by rw [show min (k + 1) nr = min k nr by omega]
theorem ck_bef_over {V : Nat → Nat → Int32} {k b : Nat} (h : b < k) (hk : k < 2 ^ 31) : ck_bef (nI k) (V 7 k) (V 8 k) (nI b) (V 7 b) (V 8 b) ↔ ck_over V k (some b) = true := by
  have h0 : nI b < nI k := nI_lt h hk
  simp only [ck_bef, ck_over, decide_eq_true_eq]
  by_cases c : V 7 k = V 7 b
  · rw [if_pos c]
    by_cases d : V 8 k = V 8 b
    · rw [if_pos d]; exact ⟨fun _ => Or.inr ⟨c.symm, by rw [d]; exact Int32.le_refl _⟩, fun _ => h0⟩
    · rw [if_neg d]
      refine ⟨fun z => Or.inr ⟨c.symm, Int32.le_of_lt z⟩, fun z => ?_⟩
      rcases z with z | z
      · rw [c] at z; exact absurd z Int32.lt_irrefl
      · exact Int32.lt_of_le_of_ne z.2 (fun e => d e.symm)
  · rw [if_neg c]
    refine ⟨fun z => Or.inl z, fun z => ?_⟩
    rcases z with z | z
    · exact z
    · exact absurd z.1.symm c
set_option maxHeartbeats 4000000 in
set_option maxRecDepth 100000 in
theorem ct_X4_rateInForce (l : Launch) (G : ck_G) (H : Heap) (ad : Nat → Nat) (N : Nat → Prop) (F : Nat → va_E) (hW : ck_W G ad N F H) (V : Nat → Nat → Int32) (L : Nat → Nat → Int64) (nc nr : Nat) (hC : ck_C G ad V L nc nr N F) (a0 a1 : Int32) : Met l yX4_rateInForce wsX4_rateInForce ({ frames := 1, cells := 0, slots := 0, locals := 23 }) (ck_P G H [.ref (ad 0), .int a0, .int a1]) (va_Sq (fun r => (∃ b, b < nr ∧ ck_best V a0 a1 nr = some b ∧ r = some (ad (200 + b))) ∨ (ck_best V a0 a1 nr = none ∧ r = none))) 0 0 (fun _ => False) := by
  refine Met.ofW (cc := cX4_rateInForce) (maxL := 8) (ret := (some (.object "CarrierDesk$Rate"))) (by decide) rfl ?_
  intro p e s m args below meth c s₁ B hml hv
  obtain ⟨rfl, hH, hKK⟩ := hv
  subst hH
  have hx := B.exec
  have hb := B.bytes
  have hr := B.returns
  have hts := atoms_spec (ws := wsX4_rateInForce) B.pre
  have hown : s.vm.findClass RX4 = some m.cls := findClass_of_methodNamed B.named
  have hlocks := B.notSynchronized
  have hKK0 := hKK
  have hK := hKK.1.1
  have hinX4 : ∀ w ∈ u_ws RX4 TX4 8, w ∈ wsX4_rateInForce := by decide +kernel
  have hinX2 : ∀ w ∈ u_ws RX2 TX2 7, w ∈ wsX4_rateInForce := by decide +kernel
  have hl := lv_entry ([.ref (ad 0), .int a0, .int a1]) (n := 8) (Nat.le_of_ble_eq_true rfl)
  rw [lg_entry_eq]
  generalize (lg_sl ([.ref (ad 0), .int a0, .int a1]) ++ List.replicate (8 - (lg_sl ([.ref (ad 0), .int a0, .int a1])).length) Slot.unset).toArray = ls at hl ⊢
  have hl : lv_has ls 8 [(0, .ref (ad 0)), (1, .int a0), (2, .int a1)] := hl
  obtain ⟨g3, hG3, hg3⟩ := hC.f3
  refine lv_null hx hb dX4_rateInForce_0 ?_
  refine lv_astore_nN (lv' := [(3, .null), (0, .ref (ad 0)), (1, .int a0), (2, .int a1)]) hx hb dX4_rateInForce_1 rfl hl (by decide) rfl (fun ls hl => ?_)
  refine lv_aload_n hx hb dX4_rateInForce_2 rfl (lv_at hl 1 rfl) ?_
  refine ck_get (v := .ref (ad 3)) hx hb hts hinX4 hown hK hW (hC.n 0 (by decide)) hC.f0 rfl 4 (by decide) (hts _ (List.mem_of_getElem? (i := 1) rfl)) rfl rfl dX4_rateInForce_3 ?_
  refine lv_astore (lv' := [(4, .ref (ad 3)), (3, .null), (0, .ref (ad 0)), (1, .int a0), (2, .int a1)]) hx hb dX4_rateInForce_6 hl (by decide) rfl (fun ls hl => ?_)
  refine lv_aload hx hb dX4_rateInForce_8 (lv_at hl 0 rfl) ?_
  refine ck_alen (v := 30) hx hb hK hW (hC.n 3 (by decide)) hG3 4 rfl rfl dX4_rateInForce_10 ?_
  refine lv_istore (lv' := [(5, .int 30), (4, .ref (ad 3)), (3, .null), (0, .ref (ad 0)), (1, .int a0), (2, .int a1)]) hx hb dX4_rateInForce_11 hl (by decide) rfl (fun ls hl => ?_)
  refine lv_iconst (v := 0) hx hb dX4_rateInForce_13 (by decide) ?_
  refine lv_istore (lv' := [(6, .int 0), (5, .int 30), (4, .ref (ad 3)), (3, .null), (0, .ref (ad 0)), (1, .int a0), (2, .int a1)]) hx hb dX4_rateInForce_14 hl (by decide) rfl (fun ls hl => ?_)
  have hl : lv_has ls 8 [(6, .int 0), (5, .int 30), (4, .ref (ad 3)), (3, va_rf ((ck_best V a0 a1 (min 0 nr)).map (fun b => ad (200 + b)))), (0, .ref (ad 0)), (1, .int a0), (2, .int a1)] := by rw [Nat.zero_min]; exact hl
  refine ck_loop (P := fun ls => W p l e _ s m _ below meth c _ _ _ _ _ (F0 m _ ls _)) 30 (fun k => [(6, .int (nI k)), (5, .int 30), (4, .ref (ad 3)), (3, va_rf ((ck_best V a0 a1 (min k nr)).map (fun b => ad (200 + b)))), (0, .ref (ad 0)), (1, .int a0), (2, .int a1)]) (fun k => True) (lv_sub hl [0, 1, 2, 3, 4, 5, 6] rfl) (trivial) ?_ ?_
  · intro ls hl hI16
    have hl : lv_has ls 8 [(6, .int (nI 30)), (5, .int 30), (4, .ref (ad 3)), (3, va_rf ((ck_best V a0 a1 (min 30 nr)).map (fun b => ad (200 + b)))), (0, .ref (ad 0)), (1, .int a0), (2, .int a1)] := hl
    refine lv_iload hx hb dX4_rateInForce_16 (lv_at hl 0 rfl) ?_
    refine lv_iload hx hb dX4_rateInForce_18 (lv_at hl 1 rfl) ?_
    refine lv_icmp_ge (tgt := 78) hx hb dX4_rateInForce_20 (by decide) (fun _ => ?_) (fun c_20 => absurd (Int32.le_refl _) c_20)
    have e9 : min 30 nr = nr := by have := hC.nr; omega
    rw [e9] at hl
    obtain ⟨ob, hob⟩ : ∃ ob, ck_best V a0 a1 nr = ob := ⟨_, rfl⟩
    rw [hob] at hl
    rcases ob with _ | b
    · skip
      have hl : lv_has ls 8 [(6, .int (nI 30)), (5, .int 30), (4, .ref (ad 3)), (3, .null), (0, .ref (ad 0)), (1, .int a0), (2, .int a1)] := hl
      refine lv_aload_nN hx hb dX4_rateInForce_78 rfl (lv_at hl 3 rfl) ?_
      exact W.aret (v := va_rf (none)) hx hb hr (Or.inl ⟨_, rfl⟩) (va_rf_or _) (fun t ht hW9 => ⟨none, rfl, Or.inr ⟨hob, rfl⟩, ht⟩) (fun _ h => nomatch h) dX4_rateInForce_79
    · skip
      have hl : lv_has ls 8 [(6, .int (nI 30)), (5, .int 30), (4, .ref (ad 3)), (3, .ref (ad (200 + b))), (0, .ref (ad 0)), (1, .int a0), (2, .int a1)] := hl
      refine lv_aload_n hx hb dX4_rateInForce_78 rfl (lv_at hl 3 rfl) ?_
      exact W.aret (v := va_rf (some ((ad (200 + b))))) hx hb hr (Or.inl ⟨_, rfl⟩) (va_rf_or _) (fun t ht hW9 => ⟨some ((ad (200 + b))), rfl, Or.inl ⟨b, ck_best_lt hob, hob, rfl⟩, ht⟩) (fun _ h => nomatch h) dX4_rateInForce_79
  · intro k16 hk16 hI16 ih16 ls hl
    have hl : lv_has ls 8 [(6, .int (nI k16)), (5, .int 30), (4, .ref (ad 3)), (3, va_rf ((ck_best V a0 a1 (min k16 nr)).map (fun b => ad (200 + b)))), (0, .ref (ad 0)), (1, .int a0), (2, .int a1)] := hl
    refine lv_iload hx hb dX4_rateInForce_16 (lv_at hl 0 rfl) ?_
    refine lv_iload hx hb dX4_rateInForce_18 (lv_at hl 1 rfl) ?_
    refine lv_icmp_ge (tgt := 78) hx hb dX4_rateInForce_20 (by decide) (fun c_20 => absurd c_20 (nI_ge hk16 (by decide))) (fun _ => ?_)
    refine lv_aload hx hb dX4_rateInForce_23 (lv_at hl 2 rfl) ?_
    refine lv_iload hx hb dX4_rateInForce_25 (lv_at hl 0 rfl) ?_
    by_cases hkn : k16 < nr
    · skip
      refine ck_aald hx hb hK hW (hC.n 3 (by decide)) hG3 4 rfl k16 (rfl) (hk16) (by decide) (r := some (ad (200 + k16))) (by rw [hg3 k16 hk16, if_pos hkn]) dX4_rateInForce_27 ?_
      refine lv_astore (lv' := [(7, .ref (ad (200 + k16))), (6, .int (nI k16)), (5, .int 30), (4, .ref (ad 3)), (3, va_rf ((ck_best V a0 a1 (min k16 nr)).map (fun b => ad (200 + b)))), (0, .ref (ad 0)), (1, .int a0), (2, .int a1)]) hx hb dX4_rateInForce_28 hl (by decide) rfl (fun ls hl => ?_)
      refine lv_aload hx hb dX4_rateInForce_30 (lv_at hl 0 rfl) ?_
      refine lv_ifnull hx hb dX4_rateInForce_32 ?_
      refine lv_aload hx hb dX4_rateInForce_35 (lv_at hl 0 rfl) ?_
      refine ck_get (v := .int (V 8 k16)) hx hb hts hinX2 hown hK hW (hC.nrate k16 hkn) (hC.rate k16 hkn) rfl 2 (by decide) (hts _ (List.mem_of_getElem? (i := 2) rfl)) rfl rfl dX4_rateInForce_37 ?_
      refine lv_iload_n hx hb dX4_rateInForce_40 rfl (lv_at hl 7 rfl) ?_
      refine lv_icmp_gt (tgt := 72) hx hb dX4_rateInForce_41 (by decide) (fun c_41 => ?_) (fun c_41 => ?_)
      · skip
        refine lv_iinc (v := nI (k16 + 1)) (lv' := [(6, .int (nI (k16 + 1))), (7, .ref (ad (200 + k16))), (5, .int 30), (4, .ref (ad 3)), (3, va_rf ((ck_best V a0 a1 (min k16 nr)).map (fun b => ad (200 + b)))), (0, .ref (ad 0)), (1, .int a0), (2, .int a1)]) hx hb dX4_rateInForce_72 hl (k := 1) rfl (nI_1 k16) (by decide) rfl (fun ls hl => ?_)
        refine lv_goto (tgt := 16) hx hb dX4_rateInForce_75 (by decide) ?_
        have e9 := ck_best_no (x := a0) (d := a1) hkn (fun z => absurd z.1 (Int32.not_le.mpr c_41))
        have hl : lv_has ls 8 [(6, .int (nI (k16 + 1))), (7, .ref (ad (200 + k16))), (5, .int 30), (4, .ref (ad 3)), (3, va_rf ((ck_best V a0 a1 (min (k16 + 1) nr)).map (fun b => ad (200 + b)))), (0, .ref (ad 0)), (1, .int a0), (2, .int a1)] := by rw [e9]; exact hl
        exact ih16 ls (lv_sub hl [0, 2, 3, 4, 5, 6, 7] rfl) (trivial)
      · skip
        refine lv_aload hx hb dX4_rateInForce_44 (lv_at hl 0 rfl) ?_
        refine ck_get (v := .int (V 7 k16)) hx hb hts hinX2 hown hK hW (hC.nrate k16 hkn) (hC.rate k16 hkn) rfl 1 (by decide) (hts _ (List.mem_of_getElem? (i := 3) rfl)) rfl rfl dX4_rateInForce_46 ?_
        refine lv_iload_n hx hb dX4_rateInForce_49 rfl (lv_at hl 6 rfl) ?_
        refine ck_cSi (As := [.int (V 7 k16), .int a0]) (rest := []) ⟨hx, hb, hml, hown, hts⟩ hKK (ct_X4_fits l G s.heap ((V 7 k16)) a0) (va_cwS 2 hts gX4_rateInForce_X4_fits rfl rfl rfl (by decide +kernel) ⟨Nat.le_of_ble_eq_true rfl, Nat.le_of_ble_eq_true rfl⟩) rfl hl rfl (Nat.le_of_ble_eq_true rfl) dX4_rateInForce_50 ⟨Nat.le_of_ble_eq_true rfl, Nat.le_of_ble_eq_true rfl⟩ (fun r_50 h_50 => ?_)
        rcases h_50 with ⟨h_50, rfl⟩ | ⟨h_50, rfl⟩
        · skip
          refine lv_if_eq (tgt := 72) hx hb dX4_rateInForce_53 (by decide) (fun c_53 => absurd c_53 (by decide)) (fun _ => ?_)
          obtain ⟨ob, hob⟩ : ∃ ob, ck_best V a0 a1 (min k16 nr) = ob := ⟨_, rfl⟩
          rw [hob] at hl
          rcases ob with _ | b
          · skip
            have hl : lv_has ls 8 [(7, .ref (ad (200 + k16))), (6, .int (nI k16)), (5, .int 30), (4, .ref (ad 3)), (3, .null), (0, .ref (ad 0)), (1, .int a0), (2, .int a1)] := hl
            refine lv_aload_nN hx hb dX4_rateInForce_56 rfl (lv_at hl 4 rfl) ?_
            refine lv_ifnullN (tgt := 69) hx hb dX4_rateInForce_57 (by decide) ?_
            refine lv_aload hx hb dX4_rateInForce_69 (lv_at hl 0 rfl) ?_
            refine lv_astore_n (lv' := [(3, .ref (ad (200 + k16))), (7, .ref (ad (200 + k16))), (6, .int (nI k16)), (5, .int 30), (4, .ref (ad 3)), (0, .ref (ad 0)), (1, .int a0), (2, .int a1)]) hx hb dX4_rateInForce_71 rfl hl (by decide) rfl (fun ls hl => ?_)
            refine lv_iinc (v := nI (k16 + 1)) (lv' := [(6, .int (nI (k16 + 1))), (3, .ref (ad (200 + k16))), (7, .ref (ad (200 + k16))), (5, .int 30), (4, .ref (ad 3)), (0, .ref (ad 0)), (1, .int a0), (2, .int a1)]) hx hb dX4_rateInForce_72 hl (k := 2) rfl (nI_1 k16) (by decide) rfl (fun ls hl => ?_)
            refine lv_goto (tgt := 16) hx hb dX4_rateInForce_75 (by decide) ?_
            have e9 := ck_best_yes hkn (Int32.not_lt.mp c_41) h_50 (by rw [hob]; rfl)
            have hl : lv_has ls 8 [(6, .int (nI (k16 + 1))), (3, va_rf ((ck_best V a0 a1 (min (k16 + 1) nr)).map (fun b => ad (200 + b)))), (7, .ref (ad (200 + k16))), (5, .int 30), (4, .ref (ad 3)), (0, .ref (ad 0)), (1, .int a0), (2, .int a1)] := by rw [e9]; exact hl
            exact ih16 ls (lv_sub hl [0, 3, 4, 1, 5, 6, 7] rfl) (trivial)
          · skip
            have hbk : b < k16 := by have := ck_best_lt hob; omega
            have hbn : b < nr := by omega
            have hl : lv_has ls 8 [(7, .ref (ad (200 + k16))), (6, .int (nI k16)), (5, .int 30), (4, .ref (ad 3)), (3, .ref (ad (200 + b))), (0, .ref (ad 0)), (1, .int a0), (2, .int a1)] := hl
            refine lv_aload_n hx hb dX4_rateInForce_56 rfl (lv_at hl 4 rfl) ?_
            refine lv_ifnull hx hb dX4_rateInForce_57 ?_
            refine lv_aload hx hb dX4_rateInForce_60 (lv_at hl 0 rfl) ?_
            refine lv_aload_n hx hb dX4_rateInForce_62 rfl (lv_at hl 4 rfl) ?_
            refine ck_cVi (As := [.ref (ad (200 + b))]) (rest := []) ⟨hx, hb, hml, hown, hts⟩ hKK (ct_X2_goesBefore l G s.heap ad N F hW (200 + k16) (hC.nrate k16 hkn) ((nI k16)) ((V 7 k16)) ((V 8 k16)) ((V 9 k16)) ((V 10 k16)) ((V 11 k16)) ((V 12 k16)) (hC.rate k16 hkn) (200 + b) (hC.nrate b hbn) ((nI b)) ((V 7 b)) ((V 8 b)) ((V 9 b)) ((V 10 b)) ((V 11 b)) ((V 12 b)) (hC.rate b hbn)) (cwV 1 hts gX4_rateInForce_X2_goesBefore rfl rfl rfl (by decide +kernel) ⟨Nat.le_of_ble_eq_true rfl, Nat.le_of_ble_eq_true rfl⟩) (ck_recv hK hW (hC.nrate k16 hkn) (hC.rate k16 hkn) rfl) rfl hl rfl (Nat.le_of_ble_eq_true rfl) dX4_rateInForce_63 ⟨Nat.le_of_ble_eq_true rfl, Nat.le_of_ble_eq_true rfl⟩ (fun r_63 h_63 => ?_)
            rcases h_63 with ⟨h_63, rfl⟩ | ⟨h_63, rfl⟩
            · skip
              refine lv_if_eq (tgt := 72) hx hb dX4_rateInForce_66 (by decide) (fun c_66 => absurd c_66 (by decide)) (fun _ => ?_)
              refine lv_aload hx hb dX4_rateInForce_69 (lv_at hl 0 rfl) ?_
              refine lv_astore_n (lv' := [(3, .ref (ad (200 + k16))), (7, .ref (ad (200 + k16))), (6, .int (nI k16)), (5, .int 30), (4, .ref (ad 3)), (0, .ref (ad 0)), (1, .int a0), (2, .int a1)]) hx hb dX4_rateInForce_71 rfl hl (by decide) rfl (fun ls hl => ?_)
              refine lv_iinc (v := nI (k16 + 1)) (lv' := [(6, .int (nI (k16 + 1))), (3, .ref (ad (200 + k16))), (7, .ref (ad (200 + k16))), (5, .int 30), (4, .ref (ad 3)), (0, .ref (ad 0)), (1, .int a0), (2, .int a1)]) hx hb dX4_rateInForce_72 hl (k := 2) rfl (nI_1 k16) (by decide) rfl (fun ls hl => ?_)
              refine lv_goto (tgt := 16) hx hb dX4_rateInForce_75 (by decide) ?_
              have e9 := ck_best_yes hkn (Int32.not_lt.mp c_41) h_50 (by rw [hob]; exact (ck_bef_over hbk (by omega)).mp h_63)
              have hl : lv_has ls 8 [(6, .int (nI (k16 + 1))), (3, va_rf ((ck_best V a0 a1 (min (k16 + 1) nr)).map (fun b => ad (200 + b)))), (7, .ref (ad (200 + k16))), (5, .int 30), (4, .ref (ad 3)), (0, .ref (ad 0)), (1, .int a0), (2, .int a1)] := by rw [e9]; exact hl
              exact ih16 ls (lv_sub hl [0, 3, 4, 1, 5, 6, 7] rfl) (trivial)
            · skip
              refine lv_if_eq (tgt := 72) hx hb dX4_rateInForce_66 (by decide) (fun _ => ?_) (fun c_66 => absurd (by decide) c_66)
              refine lv_iinc (v := nI (k16 + 1)) (lv' := [(6, .int (nI (k16 + 1))), (7, .ref (ad (200 + k16))), (5, .int 30), (4, .ref (ad 3)), (3, .ref (ad (200 + b))), (0, .ref (ad 0)), (1, .int a0), (2, .int a1)]) hx hb dX4_rateInForce_72 hl (k := 1) rfl (nI_1 k16) (by decide) rfl (fun ls hl => ?_)
              refine lv_goto (tgt := 16) hx hb dX4_rateInForce_75 (by decide) ?_
              have e9 := (ck_best_no (x := a0) (d := a1) hkn (fun z => h_63 ((ck_bef_over hbk (by omega)).mpr (by rw [hob] at z; exact z.2.2))))
              have hl : lv_has ls 8 [(6, .int (nI (k16 + 1))), (7, .ref (ad (200 + k16))), (5, .int 30), (4, .ref (ad 3)), (3, va_rf ((ck_best V a0 a1 (min (k16 + 1) nr)).map (fun b => ad (200 + b)))), (0, .ref (ad 0)), (1, .int a0), (2, .int a1)] := by rw [e9, hob]; exact hl
              exact ih16 ls (lv_sub hl [0, 2, 3, 4, 5, 6, 7] rfl) (trivial)
        · skip
          refine lv_if_eq (tgt := 72) hx hb dX4_rateInForce_53 (by decide) (fun _ => ?_) (fun c_53 => absurd (by decide) c_53)
          refine lv_iinc (v := nI (k16 + 1)) (lv' := [(6, .int (nI (k16 + 1))), (7, .ref (ad (200 + k16))), (5, .int 30), (4, .ref (ad 3)), (3, va_rf ((ck_best V a0 a1 (min k16 nr)).map (fun b => ad (200 + b)))), (0, .ref (ad 0)), (1, .int a0), (2, .int a1)]) hx hb dX4_rateInForce_72 hl (k := 1) rfl (nI_1 k16) (by decide) rfl (fun ls hl => ?_)
          refine lv_goto (tgt := 16) hx hb dX4_rateInForce_75 (by decide) ?_
          have e9 := ck_best_no (x := a0) (d := a1) hkn (fun z => h_50 z.2.1)
          have hl : lv_has ls 8 [(6, .int (nI (k16 + 1))), (7, .ref (ad (200 + k16))), (5, .int 30), (4, .ref (ad 3)), (3, va_rf ((ck_best V a0 a1 (min (k16 + 1) nr)).map (fun b => ad (200 + b)))), (0, .ref (ad 0)), (1, .int a0), (2, .int a1)] := by rw [e9]; exact hl
          exact ih16 ls (lv_sub hl [0, 2, 3, 4, 5, 6, 7] rfl) (trivial)
    · skip
      refine ck_aald hx hb hK hW (hC.n 3 (by decide)) hG3 4 rfl k16 (rfl) (hk16) (by decide) (r := none) (by rw [hg3 k16 hk16, if_neg hkn]) dX4_rateInForce_27 ?_
      refine lv_astoreN (lv' := [(7, .null), (6, .int (nI k16)), (5, .int 30), (4, .ref (ad 3)), (3, va_rf ((ck_best V a0 a1 (min k16 nr)).map (fun b => ad (200 + b)))), (0, .ref (ad 0)), (1, .int a0), (2, .int a1)]) hx hb dX4_rateInForce_28 hl (by decide) rfl (fun ls hl => ?_)
      refine lv_aloadN hx hb dX4_rateInForce_30 (lv_at hl 0 rfl) ?_
      refine lv_ifnullN (tgt := 72) hx hb dX4_rateInForce_32 (by decide) ?_
      refine lv_iinc (v := nI (k16 + 1)) (lv' := [(6, .int (nI (k16 + 1))), (7, .null), (5, .int 30), (4, .ref (ad 3)), (3, va_rf ((ck_best V a0 a1 (min k16 nr)).map (fun b => ad (200 + b)))), (0, .ref (ad 0)), (1, .int a0), (2, .int a1)]) hx hb dX4_rateInForce_72 hl (k := 1) rfl (nI_1 k16) (by decide) rfl (fun ls hl => ?_)
      refine lv_goto (tgt := 16) hx hb dX4_rateInForce_75 (by decide) ?_
      have e9 := ck_best_past (V := V) (x := a0) (d := a1) hkn
      have hl : lv_has ls 8 [(6, .int (nI (k16 + 1))), (7, .null), (5, .int 30), (4, .ref (ad 3)), (3, va_rf ((ck_best V a0 a1 (min (k16 + 1) nr)).map (fun b => ad (200 + b)))), (0, .ref (ad 0)), (1, .int a0), (2, .int a1)] := by rw [e9]; exact hl
      exact ih16 ls (lv_sub hl [0, 2, 3, 4, 5, 6, 7] rfl) (trivial)
def ck_now (V : Nat → Nat → Int32) (nr k : Nat) : Int32 := match ck_best V (V 0 k) (V 1 k / 1000) nr with
  | none => -1
  | some b => ck_chg (V 4 k) (V 9 b) (V 10 b) (V 11 b) (V 12 b)
set_option maxHeartbeats 4000000 in
set_option maxRecDepth 100000 in
theorem ct_X4_chargeNow (l : Launch) (G : ck_G) (H : Heap) (ad : Nat → Nat) (N : Nat → Prop) (F : Nat → va_E) (hW : ck_W G ad N F H) (V : Nat → Nat → Int32) (L : Nat → Nat → Int64) (nc nr : Nat) (hC : ck_C G ad V L nc nr N F) (k : Nat) (hk : k < nc) : Met l yX4_chargeNow wsX4_chargeNow ({ frames := 2, cells := 0, slots := 0, locals := 50 }) (ck_P G H [.ref (ad 0), .ref (ad (100 + k))]) (vp_Si (fun r => r = ck_now V nr k)) 0 0 (fun _ => False) := by
  refine Met.ofW (cc := cX4_chargeNow) (maxL := 3) (ret := (some .int)) (by decide) rfl ?_
  intro p e s m args below meth c s₁ B hml hv
  obtain ⟨rfl, hH, hKK⟩ := hv
  subst hH
  have hx := B.exec
  have hb := B.bytes
  have hr := B.returns
  have hts := atoms_spec (ws := wsX4_chargeNow) B.pre
  have hown : s.vm.findClass RX4 = some m.cls := findClass_of_methodNamed B.named
  have hlocks := B.notSynchronized
  have hKK0 := hKK
  have hK := hKK.1.1
  have hinX0 : ∀ w ∈ u_ws RX0 TX0 8, w ∈ wsX4_chargeNow := by decide +kernel
  have hl := lv_entry ([.ref (ad 0), .ref (ad (100 + k))]) (n := 3) (Nat.le_of_ble_eq_true rfl)
  rw [lg_entry_eq]
  generalize (lg_sl ([.ref (ad 0), .ref (ad (100 + k))]) ++ List.replicate (3 - (lg_sl ([.ref (ad 0), .ref (ad (100 + k))])).length) Slot.unset).toArray = ls at hl ⊢
  have hl : lv_has ls 3 [(0, .ref (ad 0)), (1, .ref (ad (100 + k)))] := hl
  refine lv_aload_n hx hb dX4_chargeNow_0 rfl (lv_at hl 0 rfl) ?_
  refine lv_aload_n hx hb dX4_chargeNow_1 rfl (lv_at hl 1 rfl) ?_
  refine ck_get (v := .int (V 0 k)) hx hb hts hinX0 hown hK hW (hC.ncall k hk) (hC.call k hk) rfl 1 (by decide) (hts _ (List.mem_of_getElem? (i := 1) rfl)) rfl rfl dX4_chargeNow_2 ?_
  refine lv_aload_n hx hb dX4_chargeNow_5 rfl (lv_at hl 1 rfl) ?_
  refine ck_cVi (As := []) (rest := [.int (V 0 k), .ref (ad 0)]) ⟨hx, hb, hml, hown, hts⟩ hKK (ct_X0_day l G s.heap ad N F hW (100 + k) (hC.ncall k hk) ((nI k)) ((V 0 k)) ((V 1 k)) ((V 2 k)) ((V 3 k)) ((V 4 k)) ((V 5 k)) ((V 6 k)) (hC.call k hk)) (cwV 0 hts gX4_chargeNow_X0_day rfl rfl rfl (by decide +kernel) ⟨Nat.le_of_ble_eq_true rfl, Nat.le_of_ble_eq_true rfl⟩) (ck_recv hK hW (hC.ncall k hk) (hC.call k hk) rfl) rfl hl rfl (Nat.le_of_ble_eq_true rfl) dX4_chargeNow_6 ⟨Nat.le_of_ble_eq_true rfl, Nat.le_of_ble_eq_true rfl⟩ (fun r_6 h_6 => ?_)
  subst h_6
  refine ck_cVq (As := [.int (V 0 k), .int (((V 1 k)) / 1000)]) (rest := []) ⟨hx, hb, hml, hown, hts⟩ hKK (ct_X4_rateInForce l G s.heap ad N F hW V L nc nr hC ((V 0 k)) ((((V 1 k)) / 1000))) (cwV 2 hts gX4_chargeNow_X4_rateInForce rfl rfl rfl (by decide +kernel) ⟨Nat.le_of_ble_eq_true rfl, Nat.le_of_ble_eq_true rfl⟩) (ck_recv hK hW (hC.n 0 (by decide)) hC.f0 rfl) rfl hl rfl (Nat.le_of_ble_eq_true rfl) dX4_chargeNow_9 ⟨Nat.le_of_ble_eq_true rfl, Nat.le_of_ble_eq_true rfl⟩ (fun r_9 h_9 => ?_)
  rcases h_9 with ⟨b9, hb9, e_9, rfl⟩ | ⟨e_9, rfl⟩
  · skip
    refine lv_astore_n (lv' := [(2, .ref (ad (200 + b9))), (0, .ref (ad 0)), (1, .ref (ad (100 + k)))]) hx hb dX4_chargeNow_12 rfl hl (by decide) rfl (fun ls hl => ?_)
    refine lv_aload_n hx hb dX4_chargeNow_13 rfl (lv_at hl 0 rfl) ?_
    refine lv_ifnonnull (tgt := 21) hx hb dX4_chargeNow_14 (by decide) ?_
    refine lv_aload_n hx hb dX4_chargeNow_21 rfl (lv_at hl 0 rfl) ?_
    refine lv_aload_n hx hb dX4_chargeNow_22 rfl (lv_at hl 2 rfl) ?_
    refine ck_get (v := .int (V 4 k)) hx hb hts hinX0 hown hK hW (hC.ncall k hk) (hC.call k hk) rfl 5 (by decide) (hts _ (List.mem_of_getElem? (i := 2) rfl)) rfl rfl dX4_chargeNow_23 ?_
    refine ck_cVi (As := [.int (V 4 k)]) (rest := []) ⟨hx, hb, hml, hown, hts⟩ hKK (ct_X2_chargeFor l G s.heap ad N F hW (200 + b9) (hC.nrate b9 hb9) ((nI b9)) ((V 7 b9)) ((V 8 b9)) ((V 9 b9)) ((V 10 b9)) ((V 11 b9)) ((V 12 b9)) (hC.rate b9 hb9) ((V 4 k))) (cwV 1 hts gX4_chargeNow_X2_chargeFor rfl rfl rfl (by decide +kernel) ⟨Nat.le_of_ble_eq_true rfl, Nat.le_of_ble_eq_true rfl⟩) (ck_recv hK hW (hC.nrate b9 hb9) (hC.rate b9 hb9) rfl) rfl hl rfl (Nat.le_of_ble_eq_true rfl) dX4_chargeNow_26 ⟨Nat.le_of_ble_eq_true rfl, Nat.le_of_ble_eq_true rfl⟩ (fun r_26 h_26 => ?_)
    subst h_26
    exact W.iret (v := (ck_chg ((V 4 k)) ((V 9 b9)) ((V 10 b9)) ((V 11 b9)) ((V 12 b9)))) hx hb hr (fun t ht hW9 => ⟨_, rfl, (by simp only [ck_now, e_9]), ht⟩) (fun _ h => nomatch h) dX4_chargeNow_29
  · skip
    refine lv_astore_nN (lv' := [(2, .null), (0, .ref (ad 0)), (1, .ref (ad (100 + k)))]) hx hb dX4_chargeNow_12 rfl hl (by decide) rfl (fun ls hl => ?_)
    refine lv_aload_nN hx hb dX4_chargeNow_13 rfl (lv_at hl 0 rfl) ?_
    refine lv_ifnonnullN hx hb dX4_chargeNow_14 ?_
    refine lv_iconst (v := (-1)) hx hb dX4_chargeNow_17 (by decide) ?_
    refine lv_goto (tgt := 29) hx hb dX4_chargeNow_18 (by decide) ?_
    exact W.iret (v := (-1)) hx hb hr (fun t ht hW9 => ⟨_, rfl, (by simp only [ck_now, e_9]), ht⟩) (fun _ h => nomatch h) dX4_chargeNow_29
def ck_pr (V : Nat → Nat → Int32) (x : Int32) (i : Nat) : Int32 := (ck_pf (V (20 + i)) (V (24 + i)) x 10).2
set_option maxHeartbeats 4000000 in
set_option maxRecDepth 100000 in
theorem ct_X4_priceOf (l : Launch) (G : ck_G) (H : Heap) (ad : Nat → Nat) (N : Nat → Prop) (F : Nat → va_E) (hW : ck_W G ad N F H) (V : Nat → Nat → Int32) (L : Nat → Nat → Int64) (nc nr : Nat) (hC : ck_C G ad V L nc nr N F) (i : Nat) (hi : i < 4) (a1 : Int32) : Met l yX4_priceOf wsX4_priceOf ({ frames := 2, cells := 0, slots := 0, locals := 47 }) (ck_P G H [.ref (ad 0), .int (nI i), .int a1]) (vp_Si (fun r => r = ck_pr V a1 i)) 0 0 (fun _ => False) := by
  refine Met.ofW (cc := cX4_priceOf) (maxL := 4) (ret := (some .int)) (by decide) rfl ?_
  intro p e s m args below meth c s₁ B hml hv
  obtain ⟨rfl, hH, hKK⟩ := hv
  subst hH
  have hx := B.exec
  have hb := B.bytes
  have hr := B.returns
  have hts := atoms_spec (ws := wsX4_priceOf) B.pre
  have hown : s.vm.findClass RX4 = some m.cls := findClass_of_methodNamed B.named
  have hlocks := B.notSynchronized
  have hKK0 := hKK
  have hK := hKK.1.1
  have hl := lv_entry ([.ref (ad 0), .int (nI i), .int a1]) (n := 4) (Nat.le_of_ble_eq_true rfl)
  rw [lg_entry_eq]
  generalize (lg_sl ([.ref (ad 0), .int (nI i), .int a1]) ++ List.replicate (4 - (lg_sl ([.ref (ad 0), .int (nI i), .int a1])).length) Slot.unset).toArray = ls at hl ⊢
  have hl : lv_has ls 4 [(0, .ref (ad 0)), (1, .int (nI i)), (2, .int a1)] := hl
  refine lv_aload_n hx hb dX4_priceOf_0 rfl (lv_at hl 0 rfl) ?_
  refine lv_iload_n hx hb dX4_priceOf_1 rfl (lv_at hl 1 rfl) ?_
  refine ck_cVq (As := [.int (nI i)]) (rest := []) ⟨hx, hb, hml, hown, hts⟩ hKK (ct_X4_carrierAt l G s.heap ad N F hW V L nc nr hC ((nI i))) (cwV 1 hts gX4_priceOf_X4_carrierAt rfl rfl rfl (by decide +kernel) ⟨Nat.le_of_ble_eq_true rfl, Nat.le_of_ble_eq_true rfl⟩) (ck_recv hK hW (hC.n 0 (by decide)) hC.f0 rfl) rfl hl rfl (Nat.le_of_ble_eq_true rfl) dX4_priceOf_2 ⟨Nat.le_of_ble_eq_true rfl, Nat.le_of_ble_eq_true rfl⟩ (fun r_2 h_2 => ?_)
  rcases h_2 with ⟨j2, hj2, e2, rfl⟩ | ⟨hno2, rfl⟩
  · skip
    obtain rfl : i = j2 := (nI_eq (by omega) (by omega)).mp e2
    refine lv_astore_n (lv' := [(3, .ref (ad (11 + i))), (0, .ref (ad 0)), (1, .int (nI i)), (2, .int a1)]) hx hb dX4_priceOf_5 rfl hl (by decide) rfl (fun ls hl => ?_)
    refine lv_aload_n hx hb dX4_priceOf_6 rfl (lv_at hl 0 rfl) ?_
    refine lv_ifnonnull (tgt := 14) hx hb dX4_priceOf_7 (by decide) ?_
    refine lv_aload_n hx hb dX4_priceOf_14 rfl (lv_at hl 0 rfl) ?_
    refine lv_iload_n hx hb dX4_priceOf_15 rfl (lv_at hl 3 rfl) ?_
    refine ck_cVi (As := [.int a1]) (rest := []) ⟨hx, hb, hml, hown, hts⟩ hKK (ct_X1_priceFor l G s.heap ad N F hW (11 + i) (hC.n (11 + i) (by omega)) (15 + i) (19 + i) (hC.car i hi) (hC.n (15 + i) (by omega)) ((V (20 + i))) (hC.pre i hi) (hC.n (19 + i) (by omega)) ((V (24 + i))) (hC.pri i hi) a1) (cwV 1 hts gX4_priceOf_X1_priceFor rfl rfl rfl (by decide +kernel) ⟨Nat.le_of_ble_eq_true rfl, Nat.le_of_ble_eq_true rfl⟩) (ck_recv hK hW (hC.n (11 + i) (by omega)) (hC.car i hi) rfl) rfl hl rfl (Nat.le_of_ble_eq_true rfl) dX4_priceOf_16 ⟨Nat.le_of_ble_eq_true rfl, Nat.le_of_ble_eq_true rfl⟩ (fun r_16 h_16 => ?_)
    subst h_16
    exact W.iret (v := ((ck_pf ((V (20 + i))) ((V (24 + i))) a1 10).2)) hx hb hr (fun t ht hW9 => ⟨_, rfl, rfl, ht⟩) (fun _ h => nomatch h) dX4_priceOf_19
  · skip
    exact absurd (ck_ok_nI hi (by decide)) hno2
def ck_cb (P : Nat → Int32) (i : Nat) (q : Int32) : Nat → Nat
  | 0 => 0
  | k + 1 => if ¬ P k = -1 ∧ (P k < q ∨ (P k = q ∧ k < i)) then ck_cb P i q k + 1 else ck_cb P i q k
theorem ck_cb_yes {P : Nat → Int32} {i k : Nat} {q : Int32} (h : ¬ P k = -1 ∧ (P k < q ∨ (P k = q ∧ k < i))) : ck_cb P i q (k + 1) = ck_cb P i q k + 1 := by simp only [ck_cb]; rw [if_pos h]
theorem ck_cb_no {P : Nat → Int32} {i k : Nat} {q : Int32} (h : ¬ (¬ P k = -1 ∧ (P k < q ∨ (P k = q ∧ k < i)))) : ck_cb P i q (k + 1) = ck_cb P i q k := by simp only [ck_cb]; rw [if_neg h]
set_option maxHeartbeats 4000000 in
set_option maxRecDepth 100000 in
theorem ct_X4_carriersBefore (l : Launch) (G : ck_G) (H : Heap) (ad : Nat → Nat) (N : Nat → Prop) (F : Nat → va_E) (hW : ck_W G ad N F H) (V : Nat → Nat → Int32) (L : Nat → Nat → Int64) (nc nr : Nat) (hC : ck_C G ad V L nc nr N F) (i : Nat) (hi : i < 4) (a1 a2 : Int32) : Met l yX4_carriersBefore wsX4_carriersBefore ({ frames := 3, cells := 0, slots := 0, locals := 70 }) (ck_P G H [.ref (ad 0), .int (nI i), .int a1, .int a2]) (vp_Si (fun r => r = nI (ck_cb (ck_pr V a2) i a1 4))) 0 0 (fun _ => False) := by
  refine Met.ofW (cc := cX4_carriersBefore) (maxL := 7) (ret := (some .int)) (by decide) rfl ?_
  intro p e s m args below meth c s₁ B hml hv
  obtain ⟨rfl, hH, hKK⟩ := hv
  subst hH
  have hx := B.exec
  have hb := B.bytes
  have hr := B.returns
  have hts := atoms_spec (ws := wsX4_carriersBefore) B.pre
  have hown : s.vm.findClass RX4 = some m.cls := findClass_of_methodNamed B.named
  have hlocks := B.notSynchronized
  have hKK0 := hKK
  have hK := hKK.1.1
  have hinX4 : ∀ w ∈ u_ws RX4 TX4 8, w ∈ wsX4_carriersBefore := by decide +kernel
  have hl := lv_entry ([.ref (ad 0), .int (nI i), .int a1, .int a2]) (n := 7) (Nat.le_of_ble_eq_true rfl)
  rw [lg_entry_eq]
  generalize (lg_sl ([.ref (ad 0), .int (nI i), .int a1, .int a2]) ++ List.replicate (7 - (lg_sl ([.ref (ad 0), .int (nI i), .int a1, .int a2])).length) Slot.unset).toArray = ls at hl ⊢
  have hl : lv_has ls 7 [(0, .ref (ad 0)), (1, .int (nI i)), (2, .int a1), (3, .int a2)] := hl
  obtain ⟨g4, hG4, hg4⟩ := hC.f4
  refine lv_iconst (v := 0) hx hb dX4_carriersBefore_0 (by decide) ?_
  refine lv_istore (lv' := [(4, .int 0), (0, .ref (ad 0)), (1, .int (nI i)), (2, .int a1), (3, .int a2)]) hx hb dX4_carriersBefore_1 hl (by decide) rfl (fun ls hl => ?_)
  refine lv_iconst (v := 0) hx hb dX4_carriersBefore_3 (by decide) ?_
  refine lv_istore (lv' := [(5, .int 0), (4, .int 0), (0, .ref (ad 0)), (1, .int (nI i)), (2, .int a1), (3, .int a2)]) hx hb dX4_carriersBefore_4 hl (by decide) rfl (fun ls hl => ?_)
  refine ck_loop (P := fun ls => W p l e _ s m _ below meth c _ _ _ _ _ (F0 m _ ls _)) 4 (fun k => [(5, .int (nI k)), (4, .int (nI (ck_cb (ck_pr V a2) i a1 k))), (0, .ref (ad 0)), (1, .int (nI i)), (2, .int a1), (3, .int a2)]) (fun k => True) (lv_sub hl [0, 1, 2, 3, 4, 5] rfl) (trivial) ?_ ?_
  · intro ls hl hI6
    have hl : lv_has ls 7 [(5, .int (nI 4)), (4, .int (nI (ck_cb (ck_pr V a2) i a1 4))), (0, .ref (ad 0)), (1, .int (nI i)), (2, .int a1), (3, .int a2)] := hl
    refine lv_iload hx hb dX4_carriersBefore_6 (lv_at hl 0 rfl) ?_
    refine lv_aload_n hx hb dX4_carriersBefore_8 rfl (lv_at hl 2 rfl) ?_
    refine ck_get (v := .ref (ad 4)) hx hb hts hinX4 hown hK hW (hC.n 0 (by decide)) hC.f0 rfl 7 (by decide) (hts _ (List.mem_of_getElem? (i := 1) rfl)) rfl rfl dX4_carriersBefore_9 ?_
    refine ck_alen (v := 4) hx hb hK hW (hC.n 4 (by decide)) hG4 3 rfl rfl dX4_carriersBefore_12 ?_
    refine lv_icmp_ge (tgt := 58) hx hb dX4_carriersBefore_13 (by decide) (fun _ => ?_) (fun c_13 => absurd (Int32.le_refl _) c_13)
    refine lv_iload hx hb dX4_carriersBefore_58 (lv_at hl 1 rfl) ?_
    exact W.iret (v := (nI (ck_cb (ck_pr V a2) i a1 4))) hx hb hr (fun t ht hW9 => ⟨_, rfl, rfl, ht⟩) (fun _ h => nomatch h) dX4_carriersBefore_60
  · intro k6 hk6 hI6 ih6 ls hl
    have hl : lv_has ls 7 [(5, .int (nI k6)), (4, .int (nI (ck_cb (ck_pr V a2) i a1 k6))), (0, .ref (ad 0)), (1, .int (nI i)), (2, .int a1), (3, .int a2)] := hl
    refine lv_iload hx hb dX4_carriersBefore_6 (lv_at hl 0 rfl) ?_
    refine lv_aload_n hx hb dX4_carriersBefore_8 rfl (lv_at hl 2 rfl) ?_
    refine ck_get (v := .ref (ad 4)) hx hb hts hinX4 hown hK hW (hC.n 0 (by decide)) hC.f0 rfl 7 (by decide) (hts _ (List.mem_of_getElem? (i := 1) rfl)) rfl rfl dX4_carriersBefore_9 ?_
    refine ck_alen (v := 4) hx hb hK hW (hC.n 4 (by decide)) hG4 3 rfl rfl dX4_carriersBefore_12 ?_
    refine lv_icmp_ge (tgt := 58) hx hb dX4_carriersBefore_13 (by decide) (fun c_13 => absurd c_13 (nI_ge hk6 (by decide))) (fun _ => ?_)
    refine lv_aload_n hx hb dX4_carriersBefore_16 rfl (lv_at hl 2 rfl) ?_
    refine lv_iload hx hb dX4_carriersBefore_17 (lv_at hl 0 rfl) ?_
    refine lv_iload_n hx hb dX4_carriersBefore_19 rfl (lv_at hl 5 rfl) ?_
    refine ck_cVi (As := [.int (nI k6), .int a2]) (rest := []) ⟨hx, hb, hml, hown, hts⟩ hKK (ct_X4_priceOf l G s.heap ad N F hW V L nc nr hC k6 hk6 a2) (cwV 2 hts gX4_carriersBefore_X4_priceOf rfl rfl rfl (by decide +kernel) ⟨Nat.le_of_ble_eq_true rfl, Nat.le_of_ble_eq_true rfl⟩) (ck_recv hK hW (hC.n 0 (by decide)) hC.f0 rfl) rfl hl rfl (Nat.le_of_ble_eq_true rfl) dX4_carriersBefore_20 ⟨Nat.le_of_ble_eq_true rfl, Nat.le_of_ble_eq_true rfl⟩ (fun r_20 h_20 => ?_)
    subst h_20
    refine lv_istore (lv' := [(6, .int (ck_pr V a2 k6)), (5, .int (nI k6)), (4, .int (nI (ck_cb (ck_pr V a2) i a1 k6))), (0, .ref (ad 0)), (1, .int (nI i)), (2, .int a1), (3, .int a2)]) hx hb dX4_carriersBefore_23 hl (by decide) rfl (fun ls hl => ?_)
    refine lv_iload hx hb dX4_carriersBefore_25 (lv_at hl 0 rfl) ?_
    refine lv_iconst (v := (-1)) hx hb dX4_carriersBefore_27 (by decide) ?_
    refine lv_icmp_eq (tgt := 52) hx hb dX4_carriersBefore_28 (by decide) (fun c_28 => ?_) (fun c_28 => ?_)
    · skip
      refine lv_iinc (v := nI (k6 + 1)) (lv' := [(5, .int (nI (k6 + 1))), (6, .int (ck_pr V a2 k6)), (4, .int (nI (ck_cb (ck_pr V a2) i a1 k6))), (0, .ref (ad 0)), (1, .int (nI i)), (2, .int a1), (3, .int a2)]) hx hb dX4_carriersBefore_52 hl (k := 1) rfl (nI_1 k6) (by decide) rfl (fun ls hl => ?_)
      refine lv_goto (tgt := 6) hx hb dX4_carriersBefore_55 (by decide) ?_
      have e9 : ck_cb (ck_pr V a2) i a1 (k6 + 1) = _ := ck_cb_no (fun z => z.1 c_28)
      have hl : lv_has ls 7 [(5, .int (nI (k6 + 1))), (6, .int (ck_pr V a2 k6)), (4, .int (nI (ck_cb (ck_pr V a2) i a1 (k6 + 1)))), (0, .ref (ad 0)), (1, .int (nI i)), (2, .int a1), (3, .int a2)] := by rw [e9]; exact hl
      exact ih6 ls (lv_sub hl [0, 2, 3, 4, 5, 6] rfl) (trivial)
    · skip
      refine lv_iload hx hb dX4_carriersBefore_31 (lv_at hl 0 rfl) ?_
      refine lv_iload_n hx hb dX4_carriersBefore_33 rfl (lv_at hl 5 rfl) ?_
      refine lv_icmp_lt (tgt := 49) hx hb dX4_carriersBefore_34 (by decide) (fun c_34 => ?_) (fun c_34 => ?_)
      · skip
        refine lv_iinc (v := nI ((ck_cb (ck_pr V a2) i a1 k6) + 1)) (lv' := [(4, .int (nI ((ck_cb (ck_pr V a2) i a1 k6) + 1))), (6, .int (ck_pr V a2 k6)), (5, .int (nI k6)), (0, .ref (ad 0)), (1, .int (nI i)), (2, .int a1), (3, .int a2)]) hx hb dX4_carriersBefore_49 hl (k := 2) rfl (nI_1 (ck_cb (ck_pr V a2) i a1 k6)) (by decide) rfl (fun ls hl => ?_)
        refine lv_iinc (v := nI (k6 + 1)) (lv' := [(5, .int (nI (k6 + 1))), (4, .int (nI ((ck_cb (ck_pr V a2) i a1 k6) + 1))), (6, .int (ck_pr V a2 k6)), (0, .ref (ad 0)), (1, .int (nI i)), (2, .int a1), (3, .int a2)]) hx hb dX4_carriersBefore_52 hl (k := 2) rfl (nI_1 k6) (by decide) rfl (fun ls hl => ?_)
        refine lv_goto (tgt := 6) hx hb dX4_carriersBefore_55 (by decide) ?_
        have e9 : ck_cb (ck_pr V a2) i a1 (k6 + 1) = _ := ck_cb_yes ⟨c_28, Or.inl c_34⟩
        have hl : lv_has ls 7 [(5, .int (nI (k6 + 1))), (4, .int (nI (ck_cb (ck_pr V a2) i a1 (k6 + 1)))), (6, .int (ck_pr V a2 k6)), (0, .ref (ad 0)), (1, .int (nI i)), (2, .int a1), (3, .int a2)] := by rw [e9]; exact hl
        exact ih6 ls (lv_sub hl [0, 1, 3, 4, 5, 6] rfl) (trivial)
      · skip
        refine lv_iload hx hb dX4_carriersBefore_37 (lv_at hl 0 rfl) ?_
        refine lv_iload_n hx hb dX4_carriersBefore_39 rfl (lv_at hl 5 rfl) ?_
        refine lv_icmp_ne (tgt := 52) hx hb dX4_carriersBefore_40 (by decide) (fun c_40 => ?_) (fun c_40 => ?_)
        · skip
          refine lv_iinc (v := nI (k6 + 1)) (lv' := [(5, .int (nI (k6 + 1))), (6, .int (ck_pr V a2 k6)), (4, .int (nI (ck_cb (ck_pr V a2) i a1 k6))), (0, .ref (ad 0)), (1, .int (nI i)), (2, .int a1), (3, .int a2)]) hx hb dX4_carriersBefore_52 hl (k := 1) rfl (nI_1 k6) (by decide) rfl (fun ls hl => ?_)
          refine lv_goto (tgt := 6) hx hb dX4_carriersBefore_55 (by decide) ?_
          have e9 : ck_cb (ck_pr V a2) i a1 (k6 + 1) = _ := ck_cb_no (fun z => z.2.elim c_34 (fun z => c_40 z.1))
          have hl : lv_has ls 7 [(5, .int (nI (k6 + 1))), (6, .int (ck_pr V a2 k6)), (4, .int (nI (ck_cb (ck_pr V a2) i a1 (k6 + 1)))), (0, .ref (ad 0)), (1, .int (nI i)), (2, .int a1), (3, .int a2)] := by rw [e9]; exact hl
          exact ih6 ls (lv_sub hl [0, 2, 3, 4, 5, 6] rfl) (trivial)
        · skip
          refine lv_iload hx hb dX4_carriersBefore_43 (lv_at hl 1 rfl) ?_
          refine lv_iload_n hx hb dX4_carriersBefore_45 rfl (lv_at hl 4 rfl) ?_
          refine lv_icmp_ge (tgt := 52) hx hb dX4_carriersBefore_46 (by decide) (fun c_46 => ?_) (fun c_46 => ?_)
          · skip
            refine lv_iinc (v := nI (k6 + 1)) (lv' := [(5, .int (nI (k6 + 1))), (6, .int (ck_pr V a2 k6)), (4, .int (nI (ck_cb (ck_pr V a2) i a1 k6))), (0, .ref (ad 0)), (1, .int (nI i)), (2, .int a1), (3, .int a2)]) hx hb dX4_carriersBefore_52 hl (k := 1) rfl (nI_1 k6) (by decide) rfl (fun ls hl => ?_)
            refine lv_goto (tgt := 6) hx hb dX4_carriersBefore_55 (by decide) ?_
            have e9 : ck_cb (ck_pr V a2) i a1 (k6 + 1) = _ := ck_cb_no (fun z => z.2.elim c_34 (fun z => absurd ((nI_leI (by omega) (by omega)).mp c_46) (by omega)))
            have hl : lv_has ls 7 [(5, .int (nI (k6 + 1))), (6, .int (ck_pr V a2 k6)), (4, .int (nI (ck_cb (ck_pr V a2) i a1 (k6 + 1)))), (0, .ref (ad 0)), (1, .int (nI i)), (2, .int a1), (3, .int a2)] := by rw [e9]; exact hl
            exact ih6 ls (lv_sub hl [0, 2, 3, 4, 5, 6] rfl) (trivial)
          · skip
            refine lv_iinc (v := nI ((ck_cb (ck_pr V a2) i a1 k6) + 1)) (lv' := [(4, .int (nI ((ck_cb (ck_pr V a2) i a1 k6) + 1))), (6, .int (ck_pr V a2 k6)), (5, .int (nI k6)), (0, .ref (ad 0)), (1, .int (nI i)), (2, .int a1), (3, .int a2)]) hx hb dX4_carriersBefore_49 hl (k := 2) rfl (nI_1 (ck_cb (ck_pr V a2) i a1 k6)) (by decide) rfl (fun ls hl => ?_)
            refine lv_iinc (v := nI (k6 + 1)) (lv' := [(5, .int (nI (k6 + 1))), (4, .int (nI ((ck_cb (ck_pr V a2) i a1 k6) + 1))), (6, .int (ck_pr V a2 k6)), (0, .ref (ad 0)), (1, .int (nI i)), (2, .int a1), (3, .int a2)]) hx hb dX4_carriersBefore_52 hl (k := 2) rfl (nI_1 k6) (by decide) rfl (fun ls hl => ?_)
            refine lv_goto (tgt := 6) hx hb dX4_carriersBefore_55 (by decide) ?_
            have e9 : ck_cb (ck_pr V a2) i a1 (k6 + 1) = _ := ck_cb_yes ⟨c_28, Or.inr ⟨c_40, Nat.lt_of_not_le (fun z => c_46 ((nI_leI (by omega) (by omega)).mpr z))⟩⟩
            have hl : lv_has ls 7 [(5, .int (nI (k6 + 1))), (4, .int (nI (ck_cb (ck_pr V a2) i a1 (k6 + 1)))), (6, .int (ck_pr V a2 k6)), (0, .ref (ad 0)), (1, .int (nI i)), (2, .int a1), (3, .int a2)] := by rw [e9]; exact hl
            exact ih6 ls (lv_sub hl [0, 1, 3, 4, 5, 6] rfl) (trivial)
def ck_rk (P : Nat → Int32) (lim rank : Int32) : Nat → Nat → Int32
  | _, 0 => -1
  | k, n + 1 => if ¬ P k = -1 ∧ P k ≤ lim ∧ nI (ck_cb P k (P k) 4) = rank then nI k else ck_rk P lim rank (k + 1) n
theorem ck_rk_go {P : Nat → Int32} {lim rank z : Int32} {k : Nat} (hk : k < 4) (h : ¬ (¬ P k = -1 ∧ P k ≤ lim ∧ nI (ck_cb P k (P k) 4) = rank)) (hI : ck_rk P lim rank k (4 - k) = z) : ck_rk P lim rank (k + 1) (4 - (k + 1)) = z := by
  rw [show 4 - k = (4 - (k + 1)) + 1 by omega] at hI
  rw [← hI]; simp only [ck_rk]; rw [if_neg h]
theorem ck_rk_hit {P : Nat → Int32} {lim rank z : Int32} {k : Nat} (hk : k < 4) (h : ¬ P k = -1 ∧ P k ≤ lim ∧ nI (ck_cb P k (P k) 4) = rank) (hI : ck_rk P lim rank k (4 - k) = z) : nI k = z := by
  rw [show 4 - k = (4 - (k + 1)) + 1 by omega] at hI
  rw [← hI]; simp only [ck_rk]; rw [if_pos h]
set_option maxHeartbeats 4000000 in
set_option maxRecDepth 100000 in
theorem ct_X4_carrierOfRank (l : Launch) (G : ck_G) (H : Heap) (ad : Nat → Nat) (N : Nat → Prop) (F : Nat → va_E) (hW : ck_W G ad N F H) (V : Nat → Nat → Int32) (L : Nat → Nat → Int64) (nc nr : Nat) (hC : ck_C G ad V L nc nr N F) (a0 a1 a2 : Int32) : Met l yX4_carrierOfRank wsX4_carrierOfRank ({ frames := 4, cells := 0, slots := 0, locals := 96 }) (ck_P G H [.ref (ad 0), .int a0, .int a1, .int a2]) (vp_Si (fun r => r = ck_rk (ck_pr V a0) a1 a2 0 4)) 0 0 (fun _ => False) := by
  refine Met.ofW (cc := cX4_carrierOfRank) (maxL := 6) (ret := (some .int)) (by decide) rfl ?_
  intro p e s m args below meth c s₁ B hml hv
  obtain ⟨rfl, hH, hKK⟩ := hv
  subst hH
  have hx := B.exec
  have hb := B.bytes
  have hr := B.returns
  have hts := atoms_spec (ws := wsX4_carrierOfRank) B.pre
  have hown : s.vm.findClass RX4 = some m.cls := findClass_of_methodNamed B.named
  have hlocks := B.notSynchronized
  have hKK0 := hKK
  have hK := hKK.1.1
  have hinX4 : ∀ w ∈ u_ws RX4 TX4 8, w ∈ wsX4_carrierOfRank := by decide +kernel
  have hl := lv_entry ([.ref (ad 0), .int a0, .int a1, .int a2]) (n := 6) (Nat.le_of_ble_eq_true rfl)
  rw [lg_entry_eq]
  generalize (lg_sl ([.ref (ad 0), .int a0, .int a1, .int a2]) ++ List.replicate (6 - (lg_sl ([.ref (ad 0), .int a0, .int a1, .int a2])).length) Slot.unset).toArray = ls at hl ⊢
  have hl : lv_has ls 6 [(0, .ref (ad 0)), (1, .int a0), (2, .int a1), (3, .int a2)] := hl
  obtain ⟨g4, hG4, hg4⟩ := hC.f4
  refine lv_iconst (v := 0) hx hb dX4_carrierOfRank_0 (by decide) ?_
  refine lv_istore (lv' := [(4, .int 0), (0, .ref (ad 0)), (1, .int a0), (2, .int a1), (3, .int a2)]) hx hb dX4_carrierOfRank_1 hl (by decide) rfl (fun ls hl => ?_)
  refine ck_loop (P := fun ls => W p l e _ s m _ below meth c _ _ _ _ _ (F0 m _ ls _)) 4 (fun k => [(4, .int (nI k)), (0, .ref (ad 0)), (1, .int a0), (2, .int a1), (3, .int a2)]) (fun k => ck_rk (ck_pr V a0) a1 a2 k (4 - k) = ck_rk (ck_pr V a0) a1 a2 0 4) (lv_sub hl [0, 1, 2, 3, 4] rfl) (rfl) ?_ ?_
  · intro ls hl hI3
    have hl : lv_has ls 6 [(4, .int (nI 4)), (0, .ref (ad 0)), (1, .int a0), (2, .int a1), (3, .int a2)] := hl
    refine lv_iload hx hb dX4_carrierOfRank_3 (lv_at hl 0 rfl) ?_
    refine lv_aload_n hx hb dX4_carrierOfRank_5 rfl (lv_at hl 1 rfl) ?_
    refine ck_get (v := .ref (ad 4)) hx hb hts hinX4 hown hK hW (hC.n 0 (by decide)) hC.f0 rfl 7 (by decide) (hts _ (List.mem_of_getElem? (i := 1) rfl)) rfl rfl dX4_carrierOfRank_6 ?_
    refine ck_alen (v := 4) hx hb hK hW (hC.n 4 (by decide)) hG4 3 rfl rfl dX4_carrierOfRank_9 ?_
    refine lv_icmp_ge (tgt := 56) hx hb dX4_carrierOfRank_10 (by decide) (fun _ => ?_) (fun c_10 => absurd (Int32.le_refl _) c_10)
    refine lv_iconst (v := (-1)) hx hb dX4_carrierOfRank_56 (by decide) ?_
    exact W.iret (v := (-1)) hx hb hr (fun t ht hW9 => ⟨_, rfl, hI3, ht⟩) (fun _ h => nomatch h) dX4_carrierOfRank_57
  · intro k3 hk3 hI3 ih3 ls hl
    have hl : lv_has ls 6 [(4, .int (nI k3)), (0, .ref (ad 0)), (1, .int a0), (2, .int a1), (3, .int a2)] := hl
    refine lv_iload hx hb dX4_carrierOfRank_3 (lv_at hl 0 rfl) ?_
    refine lv_aload_n hx hb dX4_carrierOfRank_5 rfl (lv_at hl 1 rfl) ?_
    refine ck_get (v := .ref (ad 4)) hx hb hts hinX4 hown hK hW (hC.n 0 (by decide)) hC.f0 rfl 7 (by decide) (hts _ (List.mem_of_getElem? (i := 1) rfl)) rfl rfl dX4_carrierOfRank_6 ?_
    refine ck_alen (v := 4) hx hb hK hW (hC.n 4 (by decide)) hG4 3 rfl rfl dX4_carrierOfRank_9 ?_
    refine lv_icmp_ge (tgt := 56) hx hb dX4_carrierOfRank_10 (by decide) (fun c_10 => absurd c_10 (nI_ge hk3 (by decide))) (fun _ => ?_)
    refine lv_aload_n hx hb dX4_carrierOfRank_13 rfl (lv_at hl 1 rfl) ?_
    refine lv_iload hx hb dX4_carrierOfRank_14 (lv_at hl 0 rfl) ?_
    refine lv_iload_n hx hb dX4_carrierOfRank_16 rfl (lv_at hl 2 rfl) ?_
    refine ck_cVi (As := [.int (nI k3), .int a0]) (rest := []) ⟨hx, hb, hml, hown, hts⟩ hKK (ct_X4_priceOf l G s.heap ad N F hW V L nc nr hC k3 hk3 a0) (cwV 2 hts gX4_carrierOfRank_X4_priceOf rfl rfl rfl (by decide +kernel) ⟨Nat.le_of_ble_eq_true rfl, Nat.le_of_ble_eq_true rfl⟩) (ck_recv hK hW (hC.n 0 (by decide)) hC.f0 rfl) rfl hl rfl (Nat.le_of_ble_eq_true rfl) dX4_carrierOfRank_17 ⟨Nat.le_of_ble_eq_true rfl, Nat.le_of_ble_eq_true rfl⟩ (fun r_17 h_17 => ?_)
    subst h_17
    refine lv_istore (lv' := [(5, .int (ck_pr V a0 k3)), (4, .int (nI k3)), (0, .ref (ad 0)), (1, .int a0), (2, .int a1), (3, .int a2)]) hx hb dX4_carrierOfRank_20 hl (by decide) rfl (fun ls hl => ?_)
    refine lv_iload hx hb dX4_carrierOfRank_22 (lv_at hl 0 rfl) ?_
    refine lv_iconst (v := (-1)) hx hb dX4_carrierOfRank_24 (by decide) ?_
    refine lv_icmp_eq (tgt := 50) hx hb dX4_carrierOfRank_25 (by decide) (fun c_25 => ?_) (fun c_25 => ?_)
    · skip
      refine lv_iinc (v := nI (k3 + 1)) (lv' := [(4, .int (nI (k3 + 1))), (5, .int (ck_pr V a0 k3)), (0, .ref (ad 0)), (1, .int a0), (2, .int a1), (3, .int a2)]) hx hb dX4_carrierOfRank_50 hl (k := 1) rfl (nI_1 k3) (by decide) rfl (fun ls hl => ?_)
      refine lv_goto (tgt := 3) hx hb dX4_carrierOfRank_53 (by decide) ?_
      exact ih3 ls (lv_sub hl [0, 2, 3, 4, 5] rfl) (ck_rk_go hk3 (fun z => z.1 c_25) hI3)
    · skip
      refine lv_iload hx hb dX4_carrierOfRank_28 (lv_at hl 0 rfl) ?_
      refine lv_iload_n hx hb dX4_carrierOfRank_30 rfl (lv_at hl 4 rfl) ?_
      refine lv_icmp_gt (tgt := 50) hx hb dX4_carrierOfRank_31 (by decide) (fun c_31 => ?_) (fun c_31 => ?_)
      · skip
        refine lv_iinc (v := nI (k3 + 1)) (lv' := [(4, .int (nI (k3 + 1))), (5, .int (ck_pr V a0 k3)), (0, .ref (ad 0)), (1, .int a0), (2, .int a1), (3, .int a2)]) hx hb dX4_carrierOfRank_50 hl (k := 1) rfl (nI_1 k3) (by decide) rfl (fun ls hl => ?_)
        refine lv_goto (tgt := 3) hx hb dX4_carrierOfRank_53 (by decide) ?_
        exact ih3 ls (lv_sub hl [0, 2, 3, 4, 5] rfl) (ck_rk_go hk3 (fun z => absurd z.2.1 (Int32.not_le.mpr c_31)) hI3)
      · skip
        refine lv_aload_n hx hb dX4_carrierOfRank_34 rfl (lv_at hl 2 rfl) ?_
        refine lv_iload hx hb dX4_carrierOfRank_35 (lv_at hl 1 rfl) ?_
        refine lv_iload hx hb dX4_carrierOfRank_37 (lv_at hl 0 rfl) ?_
        refine lv_iload_n hx hb dX4_carrierOfRank_39 rfl (lv_at hl 3 rfl) ?_
        refine ck_cVi (As := [.int (nI k3), .int (ck_pr V a0 k3), .int a0]) (rest := []) ⟨hx, hb, hml, hown, hts⟩ hKK (ct_X4_carriersBefore l G s.heap ad N F hW V L nc nr hC k3 hk3 ((ck_pr V a0 k3)) a0) (cwV 3 hts gX4_carrierOfRank_X4_carriersBefore rfl rfl rfl (by decide +kernel) ⟨Nat.le_of_ble_eq_true rfl, Nat.le_of_ble_eq_true rfl⟩) (ck_recv hK hW (hC.n 0 (by decide)) hC.f0 rfl) rfl hl rfl (Nat.le_of_ble_eq_true rfl) dX4_carrierOfRank_40 ⟨Nat.le_of_ble_eq_true rfl, Nat.le_of_ble_eq_true rfl⟩ (fun r_40 h_40 => ?_)
        subst h_40
        refine lv_iload_n hx hb dX4_carrierOfRank_43 rfl (lv_at hl 5 rfl) ?_
        refine lv_icmp_ne (tgt := 50) hx hb dX4_carrierOfRank_44 (by decide) (fun c_44 => ?_) (fun c_44 => ?_)
        · skip
          refine lv_iinc (v := nI (k3 + 1)) (lv' := [(4, .int (nI (k3 + 1))), (5, .int (ck_pr V a0 k3)), (0, .ref (ad 0)), (1, .int a0), (2, .int a1), (3, .int a2)]) hx hb dX4_carrierOfRank_50 hl (k := 1) rfl (nI_1 k3) (by decide) rfl (fun ls hl => ?_)
          refine lv_goto (tgt := 3) hx hb dX4_carrierOfRank_53 (by decide) ?_
          exact ih3 ls (lv_sub hl [0, 2, 3, 4, 5] rfl) (ck_rk_go hk3 (fun z => c_44 z.2.2) hI3)
        · skip
          refine lv_iload hx hb dX4_carrierOfRank_47 (lv_at hl 1 rfl) ?_
          exact W.iret (v := (nI k3)) hx hb hr (fun t ht hW9 => ⟨_, rfl, ck_rk_hit hk3 ⟨c_25, Int32.not_lt.mp c_31, c_44⟩ hI3, ht⟩) (fun _ h => nomatch h) dX4_carrierOfRank_49
def ck_df (V : Nat → Nat → Int32) (q : Int32) : Nat → Int32
  | 0 => 0
  | k + 1 => if ck_fit q (V 0 k) = true then ck_df V q k + (V 6 k - ck_bk (V 5 k)) else ck_df V q k
theorem ck_df_yes {V : Nat → Nat → Int32} {q : Int32} {k nc : Nat} (hk : k < nc) (h : ck_fit q (V 0 k) = true) : ck_df V q (min (k + 1) nc) = ck_df V q (min k nc) + (V 6 k - ck_bk (V 5 k)) := by
  rw [show min (k + 1) nc = k + 1 by omega, show min k nc = k by omega]; simp only [ck_df]; rw [if_pos h]
theorem ck_df_no {V : Nat → Nat → Int32} {q : Int32} {k nc : Nat} (hk : k < nc) (h : ¬ ck_fit q (V 0 k) = true) : ck_df V q (min (k + 1) nc) = ck_df V q (min k nc) := by
  rw [show min (k + 1) nc = k + 1 by omega, show min k nc = k by omega]; simp only [ck_df]; rw [if_neg h]
theorem ck_df_past {V : Nat → Nat → Int32} {q : Int32} {k nc : Nat} (hk : ¬ k < nc) : ck_df V q (min (k + 1) nc) = ck_df V q (min k nc) := by rw [show min (k + 1) nc = min k nc by omega]
set_option maxHeartbeats 4000000 in
set_option maxRecDepth 100000 in
theorem ct_X4_differenceUnder (l : Launch) (G : ck_G) (H : Heap) (ad : Nat → Nat) (N : Nat → Prop) (F : Nat → va_E) (hW : ck_W G ad N F H) (V : Nat → Nat → Int32) (L : Nat → Nat → Int64) (nc nr : Nat) (hC : ck_C G ad V L nc nr N F) (a0 : Int32) : Met l yX4_differenceUnder wsX4_differenceUnder ({ frames := 3, cells := 0, slots := 0, locals := 60 }) (ck_P G H [.ref (ad 0), .int a0]) (vp_Si (fun r => r = ck_df V a0 nc)) 0 0 (fun _ => False) := by
  refine Met.ofW (cc := cX4_differenceUnder) (maxL := 7) (ret := (some .int)) (by decide) rfl ?_
  intro p e s m args below meth c s₁ B hml hv
  obtain ⟨rfl, hH, hKK⟩ := hv
  subst hH
  have hx := B.exec
  have hb := B.bytes
  have hr := B.returns
  have hts := atoms_spec (ws := wsX4_differenceUnder) B.pre
  have hown : s.vm.findClass RX4 = some m.cls := findClass_of_methodNamed B.named
  have hlocks := B.notSynchronized
  have hKK0 := hKK
  have hK := hKK.1.1
  have hinX4 : ∀ w ∈ u_ws RX4 TX4 8, w ∈ wsX4_differenceUnder := by decide +kernel
  have hinX0 : ∀ w ∈ u_ws RX0 TX0 8, w ∈ wsX4_differenceUnder := by decide +kernel
  have hl := lv_entry ([.ref (ad 0), .int a0]) (n := 7) (Nat.le_of_ble_eq_true rfl)
  rw [lg_entry_eq]
  generalize (lg_sl ([.ref (ad 0), .int a0]) ++ List.replicate (7 - (lg_sl ([.ref (ad 0), .int a0])).length) Slot.unset).toArray = ls at hl ⊢
  have hl : lv_has ls 7 [(0, .ref (ad 0)), (1, .int a0)] := hl
  obtain ⟨g2, hG2, hg2⟩ := hC.f2
  refine lv_iconst (v := 0) hx hb dX4_differenceUnder_0 (by decide) ?_
  refine lv_istore_n (lv' := [(2, .int 0), (0, .ref (ad 0)), (1, .int a0)]) hx hb dX4_differenceUnder_1 rfl hl (by decide) rfl (fun ls hl => ?_)
  refine lv_aload_n hx hb dX4_differenceUnder_2 rfl (lv_at hl 1 rfl) ?_
  refine ck_get (v := .ref (ad 2)) hx hb hts hinX4 hown hK hW (hC.n 0 (by decide)) hC.f0 rfl 1 (by decide) (hts _ (List.mem_of_getElem? (i := 1) rfl)) rfl rfl dX4_differenceUnder_3 ?_
  refine lv_astore_n (lv' := [(3, .ref (ad 2)), (2, .int 0), (0, .ref (ad 0)), (1, .int a0)]) hx hb dX4_differenceUnder_6 rfl hl (by decide) rfl (fun ls hl => ?_)
  refine lv_aload_n hx hb dX4_differenceUnder_7 rfl (lv_at hl 0 rfl) ?_
  refine ck_alen (v := 60) hx hb hK hW (hC.n 2 (by decide)) hG2 2 rfl rfl dX4_differenceUnder_8 ?_
  refine lv_istore (lv' := [(4, .int 60), (3, .ref (ad 2)), (2, .int 0), (0, .ref (ad 0)), (1, .int a0)]) hx hb dX4_differenceUnder_9 hl (by decide) rfl (fun ls hl => ?_)
  refine lv_iconst (v := 0) hx hb dX4_differenceUnder_11 (by decide) ?_
  refine lv_istore (lv' := [(5, .int 0), (4, .int 60), (3, .ref (ad 2)), (2, .int 0), (0, .ref (ad 0)), (1, .int a0)]) hx hb dX4_differenceUnder_12 hl (by decide) rfl (fun ls hl => ?_)
  have hl : lv_has ls 7 [(5, .int 0), (4, .int 60), (3, .ref (ad 2)), (2, .int (ck_df V a0 (min 0 nc))), (0, .ref (ad 0)), (1, .int a0)] := by rw [Nat.zero_min]; exact hl
  refine ck_loop (P := fun ls => W p l e _ s m _ below meth c _ _ _ _ _ (F0 m _ ls _)) 60 (fun k => [(5, .int (nI k)), (4, .int 60), (3, .ref (ad 2)), (2, .int (ck_df V a0 (min k nc))), (0, .ref (ad 0)), (1, .int a0)]) (fun k => True) (lv_sub hl [0, 1, 2, 3, 4, 5] rfl) (trivial) ?_ ?_
  · intro ls hl hI14
    have hl : lv_has ls 7 [(5, .int (nI 60)), (4, .int 60), (3, .ref (ad 2)), (2, .int (ck_df V a0 (min 60 nc))), (0, .ref (ad 0)), (1, .int a0)] := hl
    refine lv_iload hx hb dX4_differenceUnder_14 (lv_at hl 0 rfl) ?_
    refine lv_iload hx hb dX4_differenceUnder_16 (lv_at hl 1 rfl) ?_
    refine lv_icmp_ge (tgt := 58) hx hb dX4_differenceUnder_18 (by decide) (fun _ => ?_) (fun c_18 => absurd (Int32.le_refl _) c_18)
    refine lv_iload_n hx hb dX4_differenceUnder_58 rfl (lv_at hl 3 rfl) ?_
    exact W.iret (v := (ck_df V a0 (min 60 nc))) hx hb hr (fun t ht hW9 => ⟨_, rfl, (by rw [show min 60 nc = nc by have := hC.nc; omega]), ht⟩) (fun _ h => nomatch h) dX4_differenceUnder_59
  · intro k14 hk14 hI14 ih14 ls hl
    have hl : lv_has ls 7 [(5, .int (nI k14)), (4, .int 60), (3, .ref (ad 2)), (2, .int (ck_df V a0 (min k14 nc))), (0, .ref (ad 0)), (1, .int a0)] := hl
    refine lv_iload hx hb dX4_differenceUnder_14 (lv_at hl 0 rfl) ?_
    refine lv_iload hx hb dX4_differenceUnder_16 (lv_at hl 1 rfl) ?_
    refine lv_icmp_ge (tgt := 58) hx hb dX4_differenceUnder_18 (by decide) (fun c_18 => absurd c_18 (nI_ge hk14 (by decide))) (fun _ => ?_)
    refine lv_aload_n hx hb dX4_differenceUnder_21 rfl (lv_at hl 2 rfl) ?_
    refine lv_iload hx hb dX4_differenceUnder_22 (lv_at hl 0 rfl) ?_
    by_cases hkn : k14 < nc
    · skip
      refine ck_aald hx hb hK hW (hC.n 2 (by decide)) hG2 2 rfl k14 (rfl) (hk14) (by decide) (r := some (ad (100 + k14))) (by rw [hg2 k14 hk14, if_pos hkn]) dX4_differenceUnder_24 ?_
      refine lv_astore (lv' := [(6, .ref (ad (100 + k14))), (5, .int (nI k14)), (4, .int 60), (3, .ref (ad 2)), (2, .int (ck_df V a0 (min k14 nc))), (0, .ref (ad 0)), (1, .int a0)]) hx hb dX4_differenceUnder_25 hl (by decide) rfl (fun ls hl => ?_)
      refine lv_aload hx hb dX4_differenceUnder_27 (lv_at hl 0 rfl) ?_
      refine lv_ifnull hx hb dX4_differenceUnder_29 ?_
      refine lv_iload_n hx hb dX4_differenceUnder_32 rfl (lv_at hl 6 rfl) ?_
      refine lv_aload hx hb dX4_differenceUnder_33 (lv_at hl 0 rfl) ?_
      refine ck_get (v := .int (V 0 k14)) hx hb hts hinX0 hown hK hW (hC.ncall k14 hkn) (hC.call k14 hkn) rfl 1 (by decide) (hts _ (List.mem_of_getElem? (i := 2) rfl)) rfl rfl dX4_differenceUnder_35 ?_
      refine ck_cSi (As := [.int a0, .int (V 0 k14)]) (rest := []) ⟨hx, hb, hml, hown, hts⟩ hKK (ct_X4_fits l G s.heap a0 ((V 0 k14))) (va_cwS 2 hts gX4_differenceUnder_X4_fits rfl rfl rfl (by decide +kernel) ⟨Nat.le_of_ble_eq_true rfl, Nat.le_of_ble_eq_true rfl⟩) rfl hl rfl (Nat.le_of_ble_eq_true rfl) dX4_differenceUnder_38 ⟨Nat.le_of_ble_eq_true rfl, Nat.le_of_ble_eq_true rfl⟩ (fun r_38 h_38 => ?_)
      rcases h_38 with ⟨h_38, rfl⟩ | ⟨h_38, rfl⟩
      · skip
        refine lv_if_eq (tgt := 52) hx hb dX4_differenceUnder_41 (by decide) (fun c_41 => absurd c_41 (by decide)) (fun _ => ?_)
        refine lv_iload_n hx hb dX4_differenceUnder_44 rfl (lv_at hl 4 rfl) ?_
        refine lv_aload hx hb dX4_differenceUnder_45 (lv_at hl 0 rfl) ?_
        refine ck_cVi (As := []) (rest := [.int (ck_df V a0 (min k14 nc))]) ⟨hx, hb, hml, hown, hts⟩ hKK (ct_X0_disputed l G s.heap ad N F hW (100 + k14) (hC.ncall k14 hkn) ((nI k14)) ((V 0 k14)) ((V 1 k14)) ((V 2 k14)) ((V 3 k14)) ((V 4 k14)) ((V 5 k14)) ((V 6 k14)) (hC.call k14 hkn)) (cwV 0 hts gX4_differenceUnder_X0_disputed rfl rfl rfl (by decide +kernel) ⟨Nat.le_of_ble_eq_true rfl, Nat.le_of_ble_eq_true rfl⟩) (ck_recv hK hW (hC.ncall k14 hkn) (hC.call k14 hkn) rfl) rfl hl rfl (Nat.le_of_ble_eq_true rfl) dX4_differenceUnder_47 ⟨Nat.le_of_ble_eq_true rfl, Nat.le_of_ble_eq_true rfl⟩ (fun r_47 h_47 => ?_)
        subst h_47
        refine lv_iadd hx hb dX4_differenceUnder_50 ?_
        refine lv_istore_n (lv' := [(2, .int (((ck_df V a0 (min k14 nc))) + ((((V 6 k14)) - ck_bk ((V 5 k14)))))), (6, .ref (ad (100 + k14))), (5, .int (nI k14)), (4, .int 60), (3, .ref (ad 2)), (0, .ref (ad 0)), (1, .int a0)]) hx hb dX4_differenceUnder_51 rfl hl (by decide) rfl (fun ls hl => ?_)
        refine lv_iinc (v := nI (k14 + 1)) (lv' := [(5, .int (nI (k14 + 1))), (2, .int (((ck_df V a0 (min k14 nc))) + ((((V 6 k14)) - ck_bk ((V 5 k14)))))), (6, .ref (ad (100 + k14))), (4, .int 60), (3, .ref (ad 2)), (0, .ref (ad 0)), (1, .int a0)]) hx hb dX4_differenceUnder_52 hl (k := 2) rfl (nI_1 k14) (by decide) rfl (fun ls hl => ?_)
        refine lv_goto (tgt := 14) hx hb dX4_differenceUnder_55 (by decide) ?_
        have e9 := ck_df_yes hkn h_38
        have hl : lv_has ls 7 [(5, .int (nI (k14 + 1))), (2, .int (ck_df V a0 (min (k14 + 1) nc))), (6, .ref (ad (100 + k14))), (4, .int 60), (3, .ref (ad 2)), (0, .ref (ad 0)), (1, .int a0)] := by rw [e9]; exact hl
        exact ih14 ls (lv_sub hl [0, 3, 4, 1, 5, 6] rfl) (trivial)
      · skip
        refine lv_if_eq (tgt := 52) hx hb dX4_differenceUnder_41 (by decide) (fun _ => ?_) (fun c_41 => absurd (by decide) c_41)
        refine lv_iinc (v := nI (k14 + 1)) (lv' := [(5, .int (nI (k14 + 1))), (6, .ref (ad (100 + k14))), (4, .int 60), (3, .ref (ad 2)), (2, .int (ck_df V a0 (min k14 nc))), (0, .ref (ad 0)), (1, .int a0)]) hx hb dX4_differenceUnder_52 hl (k := 1) rfl (nI_1 k14) (by decide) rfl (fun ls hl => ?_)
        refine lv_goto (tgt := 14) hx hb dX4_differenceUnder_55 (by decide) ?_
        have e9 := ck_df_no hkn h_38
        have hl : lv_has ls 7 [(5, .int (nI (k14 + 1))), (6, .ref (ad (100 + k14))), (4, .int 60), (3, .ref (ad 2)), (2, .int (ck_df V a0 (min (k14 + 1) nc))), (0, .ref (ad 0)), (1, .int a0)] := by rw [e9]; exact hl
        exact ih14 ls (lv_sub hl [0, 2, 3, 4, 5, 6] rfl) (trivial)
    · skip
      refine ck_aald hx hb hK hW (hC.n 2 (by decide)) hG2 2 rfl k14 (rfl) (hk14) (by decide) (r := none) (by rw [hg2 k14 hk14, if_neg hkn]) dX4_differenceUnder_24 ?_
      refine lv_astoreN (lv' := [(6, .null), (5, .int (nI k14)), (4, .int 60), (3, .ref (ad 2)), (2, .int (ck_df V a0 (min k14 nc))), (0, .ref (ad 0)), (1, .int a0)]) hx hb dX4_differenceUnder_25 hl (by decide) rfl (fun ls hl => ?_)
      refine lv_aloadN hx hb dX4_differenceUnder_27 (lv_at hl 0 rfl) ?_
      refine lv_ifnullN (tgt := 52) hx hb dX4_differenceUnder_29 (by decide) ?_
      refine lv_iinc (v := nI (k14 + 1)) (lv' := [(5, .int (nI (k14 + 1))), (6, .null), (4, .int 60), (3, .ref (ad 2)), (2, .int (ck_df V a0 (min k14 nc))), (0, .ref (ad 0)), (1, .int a0)]) hx hb dX4_differenceUnder_52 hl (k := 1) rfl (nI_1 k14) (by decide) rfl (fun ls hl => ?_)
      refine lv_goto (tgt := 14) hx hb dX4_differenceUnder_55 (by decide) ?_
      have e9 := ck_df_past (V := V) (q := a0) hkn
      have hl : lv_has ls 7 [(5, .int (nI (k14 + 1))), (6, .null), (4, .int 60), (3, .ref (ad 2)), (2, .int (ck_df V a0 (min (k14 + 1) nc))), (0, .ref (ad 0)), (1, .int a0)] := by rw [e9]; exact hl
      exact ih14 ls (lv_sub hl [0, 2, 3, 4, 5, 6] rfl) (trivial)
def ck_wd (V : Nat → Nat → Int32) (nc : Nat) (q : Int32) (d : Nat) : Nat → Int32 × Int32
  | 0 => (-1, 0)
  | k + 1 => if (ck_wd V nc q d k).1 < ck_abs (ck_df V (q * 10 + nI (d + k)) nc) then (ck_abs (ck_df V (q * 10 + nI (d + k)) nc), q * 10 + nI (d + k)) else ck_wd V nc q d k
theorem ck_wd_yes {V : Nat → Nat → Int32} {nc d k : Nat} {q : Int32} (h : (ck_wd V nc q d k).1 < ck_abs (ck_df V (q * 10 + nI (d + k)) nc)) : ck_wd V nc q d (k + 1) = (ck_abs (ck_df V (q * 10 + nI (d + k)) nc), q * 10 + nI (d + k)) := by simp only [ck_wd]; rw [if_pos h]
theorem ck_wd_no {V : Nat → Nat → Int32} {nc d k : Nat} {q : Int32} (h : ¬ (ck_wd V nc q d k).1 < ck_abs (ck_df V (q * 10 + nI (d + k)) nc)) : ck_wd V nc q d (k + 1) = ck_wd V nc q d k := by simp only [ck_wd]; rw [if_neg h]
def ck_dig (V : Nat → Nat → Int32) (nc : Nat) (q : Int32) : Int32 := if q = 0 then (ck_wd V nc q 1 9).2 else (ck_wd V nc q 0 10).2
set_option maxHeartbeats 4000000 in
set_option maxRecDepth 100000 in
theorem ct_X4_withWorstDigit (l : Launch) (G : ck_G) (H : Heap) (ad : Nat → Nat) (N : Nat → Prop) (F : Nat → va_E) (hW : ck_W G ad N F H) (V : Nat → Nat → Int32) (L : Nat → Nat → Int64) (nc nr : Nat) (hC : ck_C G ad V L nc nr N F) (a0 : Int32) : Met l yX4_withWorstDigit wsX4_withWorstDigit ({ frames := 4, cells := 0, slots := 0, locals := 86 }) (ck_P G H [.ref (ad 0), .int a0]) (vp_Si (fun r => r = ck_dig V nc a0)) 0 0 (fun _ => False) := by
  refine Met.ofW (cc := cX4_withWorstDigit) (maxL := 7) (ret := (some .int)) (by decide) rfl ?_
  intro p e s m args below meth c s₁ B hml hv
  obtain ⟨rfl, hH, hKK⟩ := hv
  subst hH
  have hx := B.exec
  have hb := B.bytes
  have hr := B.returns
  have hts := atoms_spec (ws := wsX4_withWorstDigit) B.pre
  have hown : s.vm.findClass RX4 = some m.cls := findClass_of_methodNamed B.named
  have hlocks := B.notSynchronized
  have hKK0 := hKK
  have hK := hKK.1.1
  have hl := lv_entry ([.ref (ad 0), .int a0]) (n := 7) (Nat.le_of_ble_eq_true rfl)
  rw [lg_entry_eq]
  generalize (lg_sl ([.ref (ad 0), .int a0]) ++ List.replicate (7 - (lg_sl ([.ref (ad 0), .int a0])).length) Slot.unset).toArray = ls at hl ⊢
  have hl : lv_has ls 7 [(0, .ref (ad 0)), (1, .int a0)] := hl
  refine lv_iconst (v := 0) hx hb dX4_withWorstDigit_0 (by decide) ?_
  refine lv_istore_n (lv' := [(2, .int 0), (0, .ref (ad 0)), (1, .int a0)]) hx hb dX4_withWorstDigit_1 rfl hl (by decide) rfl (fun ls hl => ?_)
  refine lv_iconst (v := (-1)) hx hb dX4_withWorstDigit_2 (by decide) ?_
  refine lv_istore_n (lv' := [(3, .int (-1)), (2, .int 0), (0, .ref (ad 0)), (1, .int a0)]) hx hb dX4_withWorstDigit_3 rfl hl (by decide) rfl (fun ls hl => ?_)
  refine lv_iload_n hx hb dX4_withWorstDigit_4 rfl (lv_at hl 3 rfl) ?_
  refine lv_if_ne (tgt := 12) hx hb dX4_withWorstDigit_5 (by decide) (fun c_5 => ?_) (fun c_5 => ?_)
  · skip
    refine lv_iconst (v := 0) hx hb dX4_withWorstDigit_12 (by decide) ?_
    refine lv_istore (lv' := [(4, .int 0), (3, .int (-1)), (2, .int 0), (0, .ref (ad 0)), (1, .int a0)]) hx hb dX4_withWorstDigit_13 hl (by decide) rfl (fun ls hl => ?_)
    refine ck_loop (P := fun ls => W p l e _ s m _ below meth c _ _ _ _ _ (F0 m _ ls _)) 10 (fun k => [(4, .int (nI (0 + k))), (3, .int (ck_wd V nc a0 0 k).1), (2, .int (ck_wd V nc a0 0 k).2), (0, .ref (ad 0)), (1, .int a0)]) (fun k => True) (lv_sub hl [0, 1, 2, 3, 4] rfl) (trivial) ?_ ?_
    · intro ls hl hI15
      have hl : lv_has ls 7 [(4, .int (nI (0 + 10))), (3, .int (ck_wd V nc a0 0 10).1), (2, .int (ck_wd V nc a0 0 10).2), (0, .ref (ad 0)), (1, .int a0)] := hl
      refine lv_iload hx hb dX4_withWorstDigit_15 (lv_at hl 0 rfl) ?_
      refine lv_bipush (v := 9) hx hb dX4_withWorstDigit_17 (by decide) ?_
      refine lv_icmp_gt (tgt := 60) hx hb dX4_withWorstDigit_19 (by decide) (fun _ => ?_) (fun c_19 => absurd (by decide) c_19)
      refine lv_iload_n hx hb dX4_withWorstDigit_60 rfl (lv_at hl 2 rfl) ?_
      exact W.iret (v := (ck_wd V nc a0 0 10).2) hx hb hr (fun t ht hW9 => ⟨_, rfl, (by unfold ck_dig; rw [if_neg c_5]), ht⟩) (fun _ h => nomatch h) dX4_withWorstDigit_61
    · intro k15 hk15 hI15 ih15 ls hl
      have hl : lv_has ls 7 [(4, .int (nI (0 + k15))), (3, .int (ck_wd V nc a0 0 k15).1), (2, .int (ck_wd V nc a0 0 k15).2), (0, .ref (ad 0)), (1, .int a0)] := hl
      refine lv_iload hx hb dX4_withWorstDigit_15 (lv_at hl 0 rfl) ?_
      refine lv_bipush (v := 9) hx hb dX4_withWorstDigit_17 (by decide) ?_
      refine lv_icmp_gt (tgt := 60) hx hb dX4_withWorstDigit_19 (by decide) (fun c_19 => absurd c_19 (nI_nlt (a := 9) (b := 0 + k15) (by omega) (by decide))) (fun _ => ?_)
      refine lv_iload_n hx hb dX4_withWorstDigit_22 rfl (lv_at hl 4 rfl) ?_
      refine lv_bipush (v := 10) hx hb dX4_withWorstDigit_23 (by decide) ?_
      refine lv_imul hx hb dX4_withWorstDigit_25 ?_
      refine lv_iload hx hb dX4_withWorstDigit_26 (lv_at hl 0 rfl) ?_
      refine lv_iadd hx hb dX4_withWorstDigit_28 ?_
      refine lv_istore (lv' := [(5, .int (((a0 * 10)) + ((nI (0 + k15))))), (4, .int (nI (0 + k15))), (3, .int (ck_wd V nc a0 0 k15).1), (2, .int (ck_wd V nc a0 0 k15).2), (0, .ref (ad 0)), (1, .int a0)]) hx hb dX4_withWorstDigit_29 hl (by decide) rfl (fun ls hl => ?_)
      refine lv_aload_n hx hb dX4_withWorstDigit_31 rfl (lv_at hl 4 rfl) ?_
      refine lv_iload hx hb dX4_withWorstDigit_32 (lv_at hl 0 rfl) ?_
      refine ck_cVi (As := [.int (((a0 * 10)) + ((nI (0 + k15))))]) (rest := []) ⟨hx, hb, hml, hown, hts⟩ hKK (ct_X4_differenceUnder l G s.heap ad N F hW V L nc nr hC ((((a0 * 10)) + ((nI (0 + k15)))))) (cwV 1 hts gX4_withWorstDigit_X4_differenceUnder rfl rfl rfl (by decide +kernel) ⟨Nat.le_of_ble_eq_true rfl, Nat.le_of_ble_eq_true rfl⟩) (ck_recv hK hW (hC.n 0 (by decide)) hC.f0 rfl) rfl hl rfl (Nat.le_of_ble_eq_true rfl) dX4_withWorstDigit_34 ⟨Nat.le_of_ble_eq_true rfl, Nat.le_of_ble_eq_true rfl⟩ (fun r_34 h_34 => ?_)
      subst h_34
      refine va_mabs hx hb (hml.trans hl.1.symm) hown (hts _ (List.mem_of_getElem? (i := 1) rfl)) (hts _ (List.mem_of_getElem? (i := 2) rfl)) (hts _ (List.mem_of_getElem? (i := 3) rfl)) (hts _ (List.mem_of_getElem? (i := 4) rfl)) (Nat.le_of_ble_eq_true rfl) (Nat.le_of_ble_eq_true rfl) (Nat.le_of_ble_eq_true rfl) (Nat.le_of_ble_eq_true rfl) dX4_withWorstDigit_37 ?_
      refine lv_istore (lv' := [(6, .int (if 0 ≤ (ck_df V ((((a0 * 10)) + ((nI (0 + k15))))) nc) then (ck_df V ((((a0 * 10)) + ((nI (0 + k15))))) nc) else 0 - ((ck_df V ((((a0 * 10)) + ((nI (0 + k15))))) nc)))), (5, .int (((a0 * 10)) + ((nI (0 + k15))))), (4, .int (nI (0 + k15))), (3, .int (ck_wd V nc a0 0 k15).1), (2, .int (ck_wd V nc a0 0 k15).2), (0, .ref (ad 0)), (1, .int a0)]) hx hb dX4_withWorstDigit_40 hl (by decide) rfl (fun ls hl => ?_)
      refine lv_iload hx hb dX4_withWorstDigit_42 (lv_at hl 0 rfl) ?_
      refine lv_iload_n hx hb dX4_withWorstDigit_44 rfl (lv_at hl 3 rfl) ?_
      refine lv_icmp_le (tgt := 54) hx hb dX4_withWorstDigit_45 (by decide) (fun c_45 => ?_) (fun c_45 => ?_)
      · skip
        refine lv_iinc (v := nI ((0 + k15) + 1)) (lv' := [(4, .int (nI ((0 + k15) + 1))), (6, .int (if 0 ≤ (ck_df V ((((a0 * 10)) + ((nI (0 + k15))))) nc) then (ck_df V ((((a0 * 10)) + ((nI (0 + k15))))) nc) else 0 - ((ck_df V ((((a0 * 10)) + ((nI (0 + k15))))) nc)))), (5, .int (((a0 * 10)) + ((nI (0 + k15))))), (3, .int (ck_wd V nc a0 0 k15).1), (2, .int (ck_wd V nc a0 0 k15).2), (0, .ref (ad 0)), (1, .int a0)]) hx hb dX4_withWorstDigit_54 hl (k := 2) rfl (nI_1 (0 + k15)) (by decide) rfl (fun ls hl => ?_)
        refine lv_goto (tgt := 15) hx hb dX4_withWorstDigit_57 (by decide) ?_
        have e9 := ck_wd_no (V := V) (nc := nc) (d := 0) (k := k15) (q := a0) (Int32.not_lt.mpr c_45)
        have hl : lv_has ls 7 [(4, .int (nI (0 + (k15 + 1)))), (6, .int (if 0 ≤ (ck_df V ((((a0 * 10)) + ((nI (0 + k15))))) nc) then (ck_df V ((((a0 * 10)) + ((nI (0 + k15))))) nc) else 0 - ((ck_df V ((((a0 * 10)) + ((nI (0 + k15))))) nc)))), (5, .int (((a0 * 10)) + ((nI (0 + k15))))), (3, .int (ck_wd V nc a0 0 (k15 + 1)).1), (2, .int (ck_wd V nc a0 0 (k15 + 1)).2), (0, .ref (ad 0)), (1, .int a0)] := by rw [e9]; exact hl
        exact ih15 ls (lv_sub hl [0, 3, 4, 5, 6] rfl) (trivial)
      · skip
        refine lv_iload hx hb dX4_withWorstDigit_48 (lv_at hl 0 rfl) ?_
        refine lv_istore_n (lv' := [(3, .int (if 0 ≤ (ck_df V ((((a0 * 10)) + ((nI (0 + k15))))) nc) then (ck_df V ((((a0 * 10)) + ((nI (0 + k15))))) nc) else 0 - ((ck_df V ((((a0 * 10)) + ((nI (0 + k15))))) nc)))), (6, .int (if 0 ≤ (ck_df V ((((a0 * 10)) + ((nI (0 + k15))))) nc) then (ck_df V ((((a0 * 10)) + ((nI (0 + k15))))) nc) else 0 - ((ck_df V ((((a0 * 10)) + ((nI (0 + k15))))) nc)))), (5, .int (((a0 * 10)) + ((nI (0 + k15))))), (4, .int (nI (0 + k15))), (2, .int (ck_wd V nc a0 0 k15).2), (0, .ref (ad 0)), (1, .int a0)]) hx hb dX4_withWorstDigit_50 rfl hl (by decide) rfl (fun ls hl => ?_)
        refine lv_iload hx hb dX4_withWorstDigit_51 (lv_at hl 2 rfl) ?_
        refine lv_istore_n (lv' := [(2, .int (((a0 * 10)) + ((nI (0 + k15))))), (3, .int (if 0 ≤ (ck_df V ((((a0 * 10)) + ((nI (0 + k15))))) nc) then (ck_df V ((((a0 * 10)) + ((nI (0 + k15))))) nc) else 0 - ((ck_df V ((((a0 * 10)) + ((nI (0 + k15))))) nc)))), (6, .int (if 0 ≤ (ck_df V ((((a0 * 10)) + ((nI (0 + k15))))) nc) then (ck_df V ((((a0 * 10)) + ((nI (0 + k15))))) nc) else 0 - ((ck_df V ((((a0 * 10)) + ((nI (0 + k15))))) nc)))), (5, .int (((a0 * 10)) + ((nI (0 + k15))))), (4, .int (nI (0 + k15))), (0, .ref (ad 0)), (1, .int a0)]) hx hb dX4_withWorstDigit_53 rfl hl (by decide) rfl (fun ls hl => ?_)
        refine lv_iinc (v := nI ((0 + k15) + 1)) (lv' := [(4, .int (nI ((0 + k15) + 1))), (2, .int (((a0 * 10)) + ((nI (0 + k15))))), (3, .int (if 0 ≤ (ck_df V ((((a0 * 10)) + ((nI (0 + k15))))) nc) then (ck_df V ((((a0 * 10)) + ((nI (0 + k15))))) nc) else 0 - ((ck_df V ((((a0 * 10)) + ((nI (0 + k15))))) nc)))), (6, .int (if 0 ≤ (ck_df V ((((a0 * 10)) + ((nI (0 + k15))))) nc) then (ck_df V ((((a0 * 10)) + ((nI (0 + k15))))) nc) else 0 - ((ck_df V ((((a0 * 10)) + ((nI (0 + k15))))) nc)))), (5, .int (((a0 * 10)) + ((nI (0 + k15))))), (0, .ref (ad 0)), (1, .int a0)]) hx hb dX4_withWorstDigit_54 hl (k := 4) rfl (nI_1 (0 + k15)) (by decide) rfl (fun ls hl => ?_)
        refine lv_goto (tgt := 15) hx hb dX4_withWorstDigit_57 (by decide) ?_
        have e9 := ck_wd_yes (V := V) (nc := nc) (d := 0) (k := k15) (q := a0) (Int32.not_le.mp c_45)
        have hl : lv_has ls 7 [(4, .int (nI (0 + (k15 + 1)))), (2, .int (ck_wd V nc a0 0 (k15 + 1)).2), (3, .int (ck_wd V nc a0 0 (k15 + 1)).1), (6, .int (if 0 ≤ (ck_df V ((((a0 * 10)) + ((nI (0 + k15))))) nc) then (ck_df V ((((a0 * 10)) + ((nI (0 + k15))))) nc) else 0 - ((ck_df V ((((a0 * 10)) + ((nI (0 + k15))))) nc)))), (5, .int (((a0 * 10)) + ((nI (0 + k15))))), (0, .ref (ad 0)), (1, .int a0)] := by rw [e9]; exact hl
        exact ih15 ls (lv_sub hl [0, 2, 1, 5, 6] rfl) (trivial)
  · skip
    refine lv_iconst (v := 1) hx hb dX4_withWorstDigit_8 (by decide) ?_
    refine lv_goto (tgt := 13) hx hb dX4_withWorstDigit_9 (by decide) ?_
    refine lv_istore (lv' := [(4, .int 1), (3, .int (-1)), (2, .int 0), (0, .ref (ad 0)), (1, .int a0)]) hx hb dX4_withWorstDigit_13 hl (by decide) rfl (fun ls hl => ?_)
    refine ck_loop (P := fun ls => W p l e _ s m _ below meth c _ _ _ _ _ (F0 m _ ls _)) 9 (fun k => [(4, .int (nI (1 + k))), (3, .int (ck_wd V nc a0 1 k).1), (2, .int (ck_wd V nc a0 1 k).2), (0, .ref (ad 0)), (1, .int a0)]) (fun k => True) (lv_sub hl [0, 1, 2, 3, 4] rfl) (trivial) ?_ ?_
    · intro ls hl hI15
      have hl : lv_has ls 7 [(4, .int (nI (1 + 9))), (3, .int (ck_wd V nc a0 1 9).1), (2, .int (ck_wd V nc a0 1 9).2), (0, .ref (ad 0)), (1, .int a0)] := hl
      refine lv_iload hx hb dX4_withWorstDigit_15 (lv_at hl 0 rfl) ?_
      refine lv_bipush (v := 9) hx hb dX4_withWorstDigit_17 (by decide) ?_
      refine lv_icmp_gt (tgt := 60) hx hb dX4_withWorstDigit_19 (by decide) (fun _ => ?_) (fun c_19 => absurd (by decide) c_19)
      refine lv_iload_n hx hb dX4_withWorstDigit_60 rfl (lv_at hl 2 rfl) ?_
      exact W.iret (v := (ck_wd V nc a0 1 9).2) hx hb hr (fun t ht hW9 => ⟨_, rfl, (by unfold ck_dig; rw [if_pos c_5]), ht⟩) (fun _ h => nomatch h) dX4_withWorstDigit_61
    · intro k15 hk15 hI15 ih15 ls hl
      have hl : lv_has ls 7 [(4, .int (nI (1 + k15))), (3, .int (ck_wd V nc a0 1 k15).1), (2, .int (ck_wd V nc a0 1 k15).2), (0, .ref (ad 0)), (1, .int a0)] := hl
      refine lv_iload hx hb dX4_withWorstDigit_15 (lv_at hl 0 rfl) ?_
      refine lv_bipush (v := 9) hx hb dX4_withWorstDigit_17 (by decide) ?_
      refine lv_icmp_gt (tgt := 60) hx hb dX4_withWorstDigit_19 (by decide) (fun c_19 => absurd c_19 (nI_nlt (a := 9) (b := 1 + k15) (by omega) (by decide))) (fun _ => ?_)
      refine lv_iload_n hx hb dX4_withWorstDigit_22 rfl (lv_at hl 4 rfl) ?_
      refine lv_bipush (v := 10) hx hb dX4_withWorstDigit_23 (by decide) ?_
      refine lv_imul hx hb dX4_withWorstDigit_25 ?_
      refine lv_iload hx hb dX4_withWorstDigit_26 (lv_at hl 0 rfl) ?_
      refine lv_iadd hx hb dX4_withWorstDigit_28 ?_
      refine lv_istore (lv' := [(5, .int (((a0 * 10)) + ((nI (1 + k15))))), (4, .int (nI (1 + k15))), (3, .int (ck_wd V nc a0 1 k15).1), (2, .int (ck_wd V nc a0 1 k15).2), (0, .ref (ad 0)), (1, .int a0)]) hx hb dX4_withWorstDigit_29 hl (by decide) rfl (fun ls hl => ?_)
      refine lv_aload_n hx hb dX4_withWorstDigit_31 rfl (lv_at hl 4 rfl) ?_
      refine lv_iload hx hb dX4_withWorstDigit_32 (lv_at hl 0 rfl) ?_
      refine ck_cVi (As := [.int (((a0 * 10)) + ((nI (1 + k15))))]) (rest := []) ⟨hx, hb, hml, hown, hts⟩ hKK (ct_X4_differenceUnder l G s.heap ad N F hW V L nc nr hC ((((a0 * 10)) + ((nI (1 + k15)))))) (cwV 1 hts gX4_withWorstDigit_X4_differenceUnder rfl rfl rfl (by decide +kernel) ⟨Nat.le_of_ble_eq_true rfl, Nat.le_of_ble_eq_true rfl⟩) (ck_recv hK hW (hC.n 0 (by decide)) hC.f0 rfl) rfl hl rfl (Nat.le_of_ble_eq_true rfl) dX4_withWorstDigit_34 ⟨Nat.le_of_ble_eq_true rfl, Nat.le_of_ble_eq_true rfl⟩ (fun r_34 h_34 => ?_)
      subst h_34
      refine va_mabs hx hb (hml.trans hl.1.symm) hown (hts _ (List.mem_of_getElem? (i := 1) rfl)) (hts _ (List.mem_of_getElem? (i := 2) rfl)) (hts _ (List.mem_of_getElem? (i := 3) rfl)) (hts _ (List.mem_of_getElem? (i := 4) rfl)) (Nat.le_of_ble_eq_true rfl) (Nat.le_of_ble_eq_true rfl) (Nat.le_of_ble_eq_true rfl) (Nat.le_of_ble_eq_true rfl) dX4_withWorstDigit_37 ?_
      refine lv_istore (lv' := [(6, .int (if 0 ≤ (ck_df V ((((a0 * 10)) + ((nI (1 + k15))))) nc) then (ck_df V ((((a0 * 10)) + ((nI (1 + k15))))) nc) else 0 - ((ck_df V ((((a0 * 10)) + ((nI (1 + k15))))) nc)))), (5, .int (((a0 * 10)) + ((nI (1 + k15))))), (4, .int (nI (1 + k15))), (3, .int (ck_wd V nc a0 1 k15).1), (2, .int (ck_wd V nc a0 1 k15).2), (0, .ref (ad 0)), (1, .int a0)]) hx hb dX4_withWorstDigit_40 hl (by decide) rfl (fun ls hl => ?_)
      refine lv_iload hx hb dX4_withWorstDigit_42 (lv_at hl 0 rfl) ?_
      refine lv_iload_n hx hb dX4_withWorstDigit_44 rfl (lv_at hl 3 rfl) ?_
      refine lv_icmp_le (tgt := 54) hx hb dX4_withWorstDigit_45 (by decide) (fun c_45 => ?_) (fun c_45 => ?_)
      · skip
        refine lv_iinc (v := nI ((1 + k15) + 1)) (lv' := [(4, .int (nI ((1 + k15) + 1))), (6, .int (if 0 ≤ (ck_df V ((((a0 * 10)) + ((nI (1 + k15))))) nc) then (ck_df V ((((a0 * 10)) + ((nI (1 + k15))))) nc) else 0 - ((ck_df V ((((a0 * 10)) + ((nI (1 + k15))))) nc)))), (5, .int (((a0 * 10)) + ((nI (1 + k15))))), (3, .int (ck_wd V nc a0 1 k15).1), (2, .int (ck_wd V nc a0 1 k15).2), (0, .ref (ad 0)), (1, .int a0)]) hx hb dX4_withWorstDigit_54 hl (k := 2) rfl (nI_1 (1 + k15)) (by decide) rfl (fun ls hl => ?_)
        refine lv_goto (tgt := 15) hx hb dX4_withWorstDigit_57 (by decide) ?_
        have e9 := ck_wd_no (V := V) (nc := nc) (d := 1) (k := k15) (q := a0) (Int32.not_lt.mpr c_45)
        have hl : lv_has ls 7 [(4, .int (nI (1 + (k15 + 1)))), (6, .int (if 0 ≤ (ck_df V ((((a0 * 10)) + ((nI (1 + k15))))) nc) then (ck_df V ((((a0 * 10)) + ((nI (1 + k15))))) nc) else 0 - ((ck_df V ((((a0 * 10)) + ((nI (1 + k15))))) nc)))), (5, .int (((a0 * 10)) + ((nI (1 + k15))))), (3, .int (ck_wd V nc a0 1 (k15 + 1)).1), (2, .int (ck_wd V nc a0 1 (k15 + 1)).2), (0, .ref (ad 0)), (1, .int a0)] := by rw [e9]; exact hl
        exact ih15 ls (lv_sub hl [0, 3, 4, 5, 6] rfl) (trivial)
      · skip
        refine lv_iload hx hb dX4_withWorstDigit_48 (lv_at hl 0 rfl) ?_
        refine lv_istore_n (lv' := [(3, .int (if 0 ≤ (ck_df V ((((a0 * 10)) + ((nI (1 + k15))))) nc) then (ck_df V ((((a0 * 10)) + ((nI (1 + k15))))) nc) else 0 - ((ck_df V ((((a0 * 10)) + ((nI (1 + k15))))) nc)))), (6, .int (if 0 ≤ (ck_df V ((((a0 * 10)) + ((nI (1 + k15))))) nc) then (ck_df V ((((a0 * 10)) + ((nI (1 + k15))))) nc) else 0 - ((ck_df V ((((a0 * 10)) + ((nI (1 + k15))))) nc)))), (5, .int (((a0 * 10)) + ((nI (1 + k15))))), (4, .int (nI (1 + k15))), (2, .int (ck_wd V nc a0 1 k15).2), (0, .ref (ad 0)), (1, .int a0)]) hx hb dX4_withWorstDigit_50 rfl hl (by decide) rfl (fun ls hl => ?_)
        refine lv_iload hx hb dX4_withWorstDigit_51 (lv_at hl 2 rfl) ?_
        refine lv_istore_n (lv' := [(2, .int (((a0 * 10)) + ((nI (1 + k15))))), (3, .int (if 0 ≤ (ck_df V ((((a0 * 10)) + ((nI (1 + k15))))) nc) then (ck_df V ((((a0 * 10)) + ((nI (1 + k15))))) nc) else 0 - ((ck_df V ((((a0 * 10)) + ((nI (1 + k15))))) nc)))), (6, .int (if 0 ≤ (ck_df V ((((a0 * 10)) + ((nI (1 + k15))))) nc) then (ck_df V ((((a0 * 10)) + ((nI (1 + k15))))) nc) else 0 - ((ck_df V ((((a0 * 10)) + ((nI (1 + k15))))) nc)))), (5, .int (((a0 * 10)) + ((nI (1 + k15))))), (4, .int (nI (1 + k15))), (0, .ref (ad 0)), (1, .int a0)]) hx hb dX4_withWorstDigit_53 rfl hl (by decide) rfl (fun ls hl => ?_)
        refine lv_iinc (v := nI ((1 + k15) + 1)) (lv' := [(4, .int (nI ((1 + k15) + 1))), (2, .int (((a0 * 10)) + ((nI (1 + k15))))), (3, .int (if 0 ≤ (ck_df V ((((a0 * 10)) + ((nI (1 + k15))))) nc) then (ck_df V ((((a0 * 10)) + ((nI (1 + k15))))) nc) else 0 - ((ck_df V ((((a0 * 10)) + ((nI (1 + k15))))) nc)))), (6, .int (if 0 ≤ (ck_df V ((((a0 * 10)) + ((nI (1 + k15))))) nc) then (ck_df V ((((a0 * 10)) + ((nI (1 + k15))))) nc) else 0 - ((ck_df V ((((a0 * 10)) + ((nI (1 + k15))))) nc)))), (5, .int (((a0 * 10)) + ((nI (1 + k15))))), (0, .ref (ad 0)), (1, .int a0)]) hx hb dX4_withWorstDigit_54 hl (k := 4) rfl (nI_1 (1 + k15)) (by decide) rfl (fun ls hl => ?_)
        refine lv_goto (tgt := 15) hx hb dX4_withWorstDigit_57 (by decide) ?_
        have e9 := ck_wd_yes (V := V) (nc := nc) (d := 1) (k := k15) (q := a0) (Int32.not_le.mp c_45)
        have hl : lv_has ls 7 [(4, .int (nI (1 + (k15 + 1)))), (2, .int (ck_wd V nc a0 1 (k15 + 1)).2), (3, .int (ck_wd V nc a0 1 (k15 + 1)).1), (6, .int (if 0 ≤ (ck_df V ((((a0 * 10)) + ((nI (1 + k15))))) nc) then (ck_df V ((((a0 * 10)) + ((nI (1 + k15))))) nc) else 0 - ((ck_df V ((((a0 * 10)) + ((nI (1 + k15))))) nc)))), (5, .int (((a0 * 10)) + ((nI (1 + k15))))), (0, .ref (ad 0)), (1, .int a0)] := by rw [e9]; exact hl
        exact ih15 ls (lv_sub hl [0, 2, 1, 5, 6] rfl) (trivial)
end
section
theorem fb_rng (x : Int32) : -2147483648 ≤ x.toInt ∧ x.toInt < 2147483648 := ⟨Int32.le_toInt x, Int32.toInt_lt x⟩
theorem fa_lt (a b : Int32) : a < b ↔ a.toInt < b.toInt := Int32.lt_iff_toInt_lt
theorem fa_le (a b : Int32) : a ≤ b ↔ a.toInt ≤ b.toInt := Int32.le_iff_toInt_le
theorem fa_eq (a b : Int32) : a = b ↔ a.toInt = b.toInt := Int32.toInt_inj.symm
theorem fb_bmod {z : Int} (h1 : -2147483648 ≤ z) (h2 : z < 2147483648) : z.bmod (2 ^ 32) = z := by
  rw [Int.bmod_eq_of_le] <;> omega
theorem fb_addI {x y : Int32} (h1 : -2147483648 ≤ x.toInt + y.toInt) (h2 : x.toInt + y.toInt < 2147483648) : (x + y).toInt = x.toInt + y.toInt := by
  rw [Int32.toInt_add]; exact fb_bmod h1 h2
theorem fb_subI {x y : Int32} (h1 : -2147483648 ≤ x.toInt - y.toInt) (h2 : x.toInt - y.toInt < 2147483648) : (x - y).toInt = x.toInt - y.toInt := by
  rw [Int32.toInt_sub]; exact fb_bmod h1 h2
theorem fb_mulI {x y : Int32} (h1 : -2147483648 ≤ x.toInt * y.toInt) (h2 : x.toInt * y.toInt < 2147483648) : (x * y).toInt = x.toInt * y.toInt := by
  rw [Int32.toInt_mul]; exact fb_bmod h1 h2
def ck_rg (lo : Int) (x : Int32) (hi : Int) : Prop := lo ≤ x.toInt ∧ x.toInt ≤ hi
theorem ck_toI0 : (0 : Int32).toInt = 0 := rfl
theorem ck_m1 {b : Nat} (h : b < 2 ^ 31) : ¬ nI b = -1 := by
  intro e
  have e2 := (fa_eq _ _).mp e
  rw [nI_toInt h] at e2
  have : ((-1 : Int32)).toInt = -1 := rfl
  omega
set_option maxHeartbeats 4000000 in
set_option maxRecDepth 100000 in
theorem ct_X5_thrown (l : Launch) (G : ck_G) (H : Heap) (ad : Nat → Nat) (N : Nat → Prop) (F : Nat → va_E) (hW : ck_W G ad N F H) (V : Nat → Nat → Int32) (L : Nat → Nat → Int64) (nc nr : Nat) (t : Int32) (hM : ck_M G ad V L nc nr t N F) : Met l yX5_thrown wsX5_thrown ({ frames := 0, cells := 0, slots := 0, locals := 0 }) (ck_P G H [.ref (ad 30)]) (vp_Si (fun r => r = t)) 0 0 (fun _ => False) := by
  refine Met.ofW (cc := cX5_thrown) (maxL := 1) (ret := (some .int)) (by decide) rfl ?_
  intro p e s m args below meth c s₁ B hml hv
  obtain ⟨rfl, hH, hKK⟩ := hv
  subst hH
  have hx := B.exec
  have hb := B.bytes
  have hr := B.returns
  have hts := atoms_spec (ws := wsX5_thrown) B.pre
  have hown : s.vm.findClass RX5 = some m.cls := findClass_of_methodNamed B.named
  have hlocks := B.notSynchronized
  have hKK0 := hKK
  have hK := hKK.1.1
  have hinX5 : ∀ w ∈ u_ws RX5 TX5 26, w ∈ wsX5_thrown := by decide +kernel
  have hl := lv_entry ([.ref (ad 30)]) (n := 1) (Nat.le_of_ble_eq_true rfl)
  rw [lg_entry_eq]
  generalize (lg_sl ([.ref (ad 30)]) ++ List.replicate (1 - (lg_sl ([.ref (ad 30)])).length) Slot.unset).toArray = ls at hl ⊢
  have hl : lv_has ls 1 [(0, .ref (ad 30))] := hl
  refine lv_aload_n hx hb dX5_thrown_0 rfl (lv_at hl 0 rfl) ?_
  refine ck_get (v := .int t) hx hb hts hinX5 hown hK hW (hM.n 30 (by decide) (by decide)) hM.f30 rfl 25 (by decide) (hts _ (List.mem_of_getElem? (i := 1) rfl)) rfl rfl dX5_thrown_1 ?_
  exact W.iret (v := t) hx hb hr (fun t ht hW9 => ⟨_, rfl, rfl, ht⟩) (fun _ h => nomatch h) dX5_thrown_4
theorem ck_dvN {n : Nat} (h : n < 2 ^ 31) : ∀ k, ck_dv k (nI n) = nI (n / 10 ^ k)
  | 0 => by simp [ck_dv]
  | k + 1 => by
    have h2 : n / 10 ^ k < 2 ^ 31 := Nat.lt_of_le_of_lt (Nat.div_le_self _ _) h
    show ck_dv k (nI n) / 10 = _
    rw [ck_dvN h k, show (10 : Int32) = nI 10 from rfl, pk_div h2 (by decide) (by decide), Nat.div_div_eq_div_mul, Nat.pow_succ]
theorem ck_toN {x : Int32} (h0 : 0 ≤ x.toInt) : ∃ n : Nat, n < 2 ^ 31 ∧ x = nI n := nI_of (by rw [fa_lt]; show ¬ _ < (0 : Int32).toInt; rw [ck_toI0]; omega)
theorem ck_dv8 {x : Int32} (h0 : 0 ≤ x.toInt) (h1 : x.toInt ≤ 99999999) : ck_dv 8 x = 0 := by
  obtain ⟨n, hn, rfl⟩ := ck_toN h0
  rw [nI_toInt hn] at h1
  rw [ck_dvN hn, show n / 10 ^ 8 = 0 from Nat.div_eq_of_lt (by omega)]; rfl
set_option maxHeartbeats 4000000 in
set_option maxRecDepth 100000 in
theorem ct_X5_fits (l : Launch) (G : ck_G) (H : Heap) (a0 a1 : Int32) (h0 : 0 ≤ a0.toInt) (h1 : 0 ≤ a1.toInt) (h2 : a1.toInt ≤ 99999999) : Met l yX5_fits wsX5_fits ({ frames := 0, cells := 0, slots := 0, locals := 0 }) (ck_P G H [.int a0, .int a1]) (vp_Si (fun r => ck_b (ck_fit a0 a1 = true) r)) 0 0 (fun _ => False) := by
  refine Met.ofW (cc := cX5_fits) (maxL := 3) (ret := (some .boolean)) (by decide) rfl ?_
  intro p e s m args below meth c s₁ B hml hv
  obtain ⟨rfl, hH, hKK⟩ := hv
  subst hH
  have hx := B.exec
  have hb := B.bytes
  have hr := B.returns
  have hts := atoms_spec (ws := wsX5_fits) B.pre
  have hown : s.vm.findClass RX5 = some m.cls := findClass_of_methodNamed B.named
  have hlocks := B.notSynchronized
  have hKK0 := hKK
  have hK := hKK.1.1
  have hl := lv_entry ([.int a0, .int a1]) (n := 3) (Nat.le_of_ble_eq_true rfl)
  rw [lg_entry_eq]
  generalize (lg_sl ([.int a0, .int a1]) ++ List.replicate (3 - (lg_sl ([.int a0, .int a1])).length) Slot.unset).toArray = ls at hl ⊢
  have hl : lv_has ls 3 [(0, .int a0), (1, .int a1)] := hl
  refine lv_iload_n hx hb dX5_fits_0 rfl (lv_at hl 1 rfl) ?_
  refine lv_istore_n (lv' := [(2, .int a1), (0, .int a0), (1, .int a1)]) hx hb dX5_fits_1 rfl hl (by decide) rfl (fun ls hl => ?_)
  refine ck_loop (P := fun ls => W p l e _ s m _ below meth c _ _ _ _ _ (F0 m _ ls _)) 9 (fun k => [(2, .int (ck_dv k a1)), (0, .int a0), (1, .int a1)]) (fun k => k ≤ 8 ∧ ck_drop (8 - k) a0 (ck_dv k a1) = ck_drop 8 a0 a1) (lv_sub hl [0, 1, 2] rfl) (⟨Nat.zero_le _, rfl⟩) ?_ ?_
  · intro ls hl hI2
    have hl : lv_has ls 3 [(2, .int (ck_dv 9 a1)), (0, .int a0), (1, .int a1)] := hl
    exact absurd hI2.1 (by decide)
  · intro k2 hk2 hI2 ih2 ls hl
    have hl : lv_has ls 3 [(2, .int (ck_dv k2 a1)), (0, .int a0), (1, .int a1)] := hl
    refine lv_iload_n hx hb dX5_fits_2 rfl (lv_at hl 0 rfl) ?_
    refine lv_iload_n hx hb dX5_fits_3 rfl (lv_at hl 1 rfl) ?_
    refine lv_icmp_le (tgt := 15) hx hb dX5_fits_4 (by decide) (fun c_4 => ?_) (fun c_4 => ?_)
    · skip
      have hE : ck_drop 8 a0 a1 = ck_dv k2 a1 := hI2.2.symm.trans (ck_drop_stop (Int32.not_lt.mpr c_4) _)
      refine lv_iload_n hx hb dX5_fits_15 rfl (lv_at hl 0 rfl) ?_
      refine lv_iload_n hx hb dX5_fits_16 rfl (lv_at hl 1 rfl) ?_
      refine lv_icmp_ne (tgt := 24) hx hb dX5_fits_17 (by decide) (fun c_17 => ?_) (fun c_17 => ?_)
      · skip
        refine lv_iconst (v := 0) hx hb dX5_fits_24 (by decide) ?_
        exact W.zret (v := 0) hx hb hr rfl (fun t ht hW9 => ⟨_, rfl, Or.inr ⟨fun h => c_17 (hE.symm.trans (of_decide_eq_true h)), rfl⟩, ht⟩) (fun _ h => nomatch h) dX5_fits_25
      · skip
        refine lv_iconst (v := 1) hx hb dX5_fits_20 (by decide) ?_
        refine lv_goto (tgt := 25) hx hb dX5_fits_21 (by decide) ?_
        exact W.zret (v := 1) hx hb hr rfl (fun t ht hW9 => ⟨_, rfl, Or.inl ⟨decide_eq_true (hE.trans c_17), rfl⟩, ht⟩) (fun _ h => nomatch h) dX5_fits_25
    · skip
      refine lv_iload_n hx hb dX5_fits_7 rfl (lv_at hl 0 rfl) ?_
      refine lv_bipush (v := 10) hx hb dX5_fits_8 (by decide) ?_
      refine lv_idiv hx hb dX5_fits_10 (by decide) ?_
      refine lv_istore_n (lv' := [(2, .int (((ck_dv k2 a1)) / 10)), (0, .int a0), (1, .int a1)]) hx hb dX5_fits_11 rfl hl (by decide) rfl (fun ls hl => ?_)
      refine lv_goto (tgt := 2) hx hb dX5_fits_12 (by decide) ?_
      have hk8 : k2 < 8 := by
        rcases Nat.lt_or_ge k2 8 with h | h
        · exact h
        · have e8 : k2 = 8 := by omega
          subst e8; exact absurd (by rw [ck_dv8 h1 h2, fa_le]; exact h0) c_4
      exact ih2 ls (lv_sub hl [0, 1, 2] rfl) (⟨hk8, ck_drop_go hk8 (Int32.not_le.mp c_4) hI2.2⟩)
def ck_ap (a b : Int32) : Int32 := if a < b then b - a else a - b
set_option maxHeartbeats 4000000 in
set_option maxRecDepth 100000 in
theorem ct_X5_apart (l : Launch) (G : ck_G) (H : Heap) (a0 a1 : Int32) : Met l yX5_apart wsX5_apart ({ frames := 0, cells := 0, slots := 0, locals := 0 }) (ck_P G H [.int a0, .int a1]) (vp_Si (fun r => r = ck_ap a0 a1)) 0 0 (fun _ => False) := by
  refine Met.ofW (cc := cX5_apart) (maxL := 2) (ret := (some .int)) (by decide) rfl ?_
  intro p e s m args below meth c s₁ B hml hv
  obtain ⟨rfl, hH, hKK⟩ := hv
  subst hH
  have hx := B.exec
  have hb := B.bytes
  have hr := B.returns
  have hts := atoms_spec (ws := wsX5_apart) B.pre
  have hown : s.vm.findClass RX5 = some m.cls := findClass_of_methodNamed B.named
  have hlocks := B.notSynchronized
  have hKK0 := hKK
  have hK := hKK.1.1
  have hl := lv_entry ([.int a0, .int a1]) (n := 2) (Nat.le_of_ble_eq_true rfl)
  rw [lg_entry_eq]
  generalize (lg_sl ([.int a0, .int a1]) ++ List.replicate (2 - (lg_sl ([.int a0, .int a1])).length) Slot.unset).toArray = ls at hl ⊢
  have hl : lv_has ls 2 [(0, .int a0), (1, .int a1)] := hl
  refine lv_iload_n hx hb dX5_apart_0 rfl (lv_at hl 0 rfl) ?_
  refine lv_iload_n hx hb dX5_apart_1 rfl (lv_at hl 1 rfl) ?_
  refine lv_icmp_ge (tgt := 11) hx hb dX5_apart_2 (by decide) (fun c_2 => ?_) (fun c_2 => ?_)
  · skip
    refine lv_iload_n hx hb dX5_apart_11 rfl (lv_at hl 0 rfl) ?_
    refine lv_iload_n hx hb dX5_apart_12 rfl (lv_at hl 1 rfl) ?_
    refine lv_isub hx hb dX5_apart_13 ?_
    exact W.iret (v := (a0 - a1)) hx hb hr (fun t ht hW9 => ⟨_, rfl, (by unfold ck_ap; rw [if_neg (Int32.not_lt.mpr c_2)]), ht⟩) (fun _ h => nomatch h) dX5_apart_14
  · skip
    refine lv_iload_n hx hb dX5_apart_5 rfl (lv_at hl 1 rfl) ?_
    refine lv_iload_n hx hb dX5_apart_6 rfl (lv_at hl 0 rfl) ?_
    refine lv_isub hx hb dX5_apart_7 ?_
    refine lv_goto (tgt := 14) hx hb dX5_apart_8 (by decide) ?_
    exact W.iret (v := (a1 - a0)) hx hb hr (fun t ht hW9 => ⟨_, rfl, (by unfold ck_ap; rw [if_pos (Int32.not_le.mp c_2)]), ht⟩) (fun _ h => nomatch h) dX5_apart_14
set_option maxHeartbeats 4000000 in
set_option maxRecDepth 100000 in
theorem ct_X5_isCall (l : Launch) (G : ck_G) (H : Heap) (ad : Nat → Nat) (N : Nat → Prop) (F : Nat → va_E) (hW : ck_W G ad N F H) (V : Nat → Nat → Int32) (L : Nat → Nat → Int64) (nc nr : Nat) (t : Int32) (hM : ck_M G ad V L nc nr t N F) (a0 : Int32) : Met l yX5_isCall wsX5_isCall ({ frames := 0, cells := 0, slots := 0, locals := 0 }) (ck_P G H [.ref (ad 30), .int a0]) (vp_Si (fun r => ck_b (ck_ok a0 nc) r)) 0 0 (fun _ => False) := by
  refine Met.ofW (cc := cX5_isCall) (maxL := 2) (ret := (some .boolean)) (by decide) rfl ?_
  intro p e s m args below meth c s₁ B hml hv
  obtain ⟨rfl, hH, hKK⟩ := hv
  subst hH
  have hx := B.exec
  have hb := B.bytes
  have hr := B.returns
  have hts := atoms_spec (ws := wsX5_isCall) B.pre
  have hown : s.vm.findClass RX5 = some m.cls := findClass_of_methodNamed B.named
  have hlocks := B.notSynchronized
  have hKK0 := hKK
  have hK := hKK.1.1
  have hinX5 : ∀ w ∈ u_ws RX5 TX5 26, w ∈ wsX5_isCall := by decide +kernel
  have hl := lv_entry ([.ref (ad 30), .int a0]) (n := 2) (Nat.le_of_ble_eq_true rfl)
  rw [lg_entry_eq]
  generalize (lg_sl ([.ref (ad 30), .int a0]) ++ List.replicate (2 - (lg_sl ([.ref (ad 30), .int a0])).length) Slot.unset).toArray = ls at hl ⊢
  have hl : lv_has ls 2 [(0, .ref (ad 30)), (1, .int a0)] := hl
  refine lv_iload_n hx hb dX5_isCall_0 rfl (lv_at hl 1 rfl) ?_
  refine lv_if_lt (tgt := 16) hx hb dX5_isCall_1 (by decide) (fun c_1 => ?_) (fun c_1 => ?_)
  · skip
    refine lv_iconst (v := 0) hx hb dX5_isCall_16 (by decide) ?_
    exact W.zret (v := 0) hx hb hr rfl (fun t ht hW9 => ⟨_, rfl, Or.inr ⟨ck_ok_neg c_1, rfl⟩, ht⟩) (fun _ h => nomatch h) dX5_isCall_17
  · skip
    refine lv_iload_n hx hb dX5_isCall_4 rfl (lv_at hl 1 rfl) ?_
    refine lv_aload_n hx hb dX5_isCall_5 rfl (lv_at hl 0 rfl) ?_
    refine ck_get (v := .int (nI nc)) hx hb hts hinX5 hown hK hW (hM.n 30 (by decide) (by decide)) hM.f30 rfl 6 (by decide) (hts _ (List.mem_of_getElem? (i := 1) rfl)) rfl rfl dX5_isCall_6 ?_
    refine lv_icmp_ge (tgt := 16) hx hb dX5_isCall_9 (by decide) (fun c_9 => ?_) (fun c_9 => ?_)
    · skip
      refine lv_iconst (v := 0) hx hb dX5_isCall_16 (by decide) ?_
      exact W.zret (v := 0) hx hb hr rfl (fun t ht hW9 => ⟨_, rfl, Or.inr ⟨fun z => absurd z.2 (Int32.not_lt.mpr c_9), rfl⟩, ht⟩) (fun _ h => nomatch h) dX5_isCall_17
    · skip
      refine lv_iconst (v := 1) hx hb dX5_isCall_12 (by decide) ?_
      refine lv_goto (tgt := 17) hx hb dX5_isCall_13 (by decide) ?_
      exact W.zret (v := 1) hx hb hr rfl (fun t ht hW9 => ⟨_, rfl, Or.inl ⟨⟨Int32.not_lt.mp c_1, Int32.not_le.mp c_9⟩, rfl⟩, ht⟩) (fun _ h => nomatch h) dX5_isCall_17
set_option maxHeartbeats 4000000 in
set_option maxRecDepth 100000 in
theorem ct_X5_bookedOf (l : Launch) (G : ck_G) (H : Heap) (ad : Nat → Nat) (N : Nat → Prop) (F : Nat → va_E) (hW : ck_W G ad N F H) (V : Nat → Nat → Int32) (L : Nat → Nat → Int64) (nc nr : Nat) (t : Int32) (hM : ck_M G ad V L nc nr t N F) (k : Nat) (hk : k < 60) : Met l yX5_bookedOf wsX5_bookedOf ({ frames := 0, cells := 0, slots := 0, locals := 0 }) (ck_P G H [.ref (ad 30), .int (nI k)]) (vp_Si (fun r => r = ck_bk (V 5 k))) 0 0 (fun _ => False) := by
  refine Met.ofW (cc := cX5_bookedOf) (maxL := 2) (ret := (some .int)) (by decide) rfl ?_
  intro p e s m args below meth c s₁ B hml hv
  obtain ⟨rfl, hH, hKK⟩ := hv
  subst hH
  have hx := B.exec
  have hb := B.bytes
  have hr := B.returns
  have hts := atoms_spec (ws := wsX5_bookedOf) B.pre
  have hown : s.vm.findClass RX5 = some m.cls := findClass_of_methodNamed B.named
  have hlocks := B.notSynchronized
  have hKK0 := hKK
  have hK := hKK.1.1
  have hinX5 : ∀ w ∈ u_ws RX5 TX5 26, w ∈ wsX5_bookedOf := by decide +kernel
  have hl := lv_entry ([.ref (ad 30), .int (nI k)]) (n := 2) (Nat.le_of_ble_eq_true rfl)
  rw [lg_entry_eq]
  generalize (lg_sl ([.ref (ad 30), .int (nI k)]) ++ List.replicate (2 - (lg_sl ([.ref (ad 30), .int (nI k)])).length) Slot.unset).toArray = ls at hl ⊢
  have hl : lv_has ls 2 [(0, .ref (ad 30)), (1, .int (nI k))] := hl
  refine lv_aload_n hx hb dX5_bookedOf_0 rfl (lv_at hl 0 rfl) ?_
  refine ck_get (v := .ref (ad 41)) hx hb hts hinX5 hown hK hW (hM.n 30 (by decide) (by decide)) hM.f30 rfl 12 (by decide) (hts _ (List.mem_of_getElem? (i := 1) rfl)) rfl rfl dX5_bookedOf_1 ?_
  refine lv_iload_n hx hb dX5_bookedOf_4 rfl (lv_at hl 1 rfl) ?_
  refine ck_iald hx hb hK hW (hM.n 41 (by decide) (by decide)) hM.f41 k (rfl) (by omega) (by decide) dX5_bookedOf_5 ?_
  refine lv_iconst (v := (-1)) hx hb dX5_bookedOf_6 (by decide) ?_
  refine lv_icmp_ne (tgt := 14) hx hb dX5_bookedOf_7 (by decide) (fun c_7 => ?_) (fun c_7 => ?_)
  · skip
    refine lv_aload_n hx hb dX5_bookedOf_14 rfl (lv_at hl 0 rfl) ?_
    refine ck_get (v := .ref (ad 41)) hx hb hts hinX5 hown hK hW (hM.n 30 (by decide) (by decide)) hM.f30 rfl 12 (by decide) (hts _ (List.mem_of_getElem? (i := 1) rfl)) rfl rfl dX5_bookedOf_15 ?_
    refine lv_iload_n hx hb dX5_bookedOf_18 rfl (lv_at hl 1 rfl) ?_
    refine ck_iald hx hb hK hW (hM.n 41 (by decide) (by decide)) hM.f41 k (rfl) (by omega) (by decide) dX5_bookedOf_19 ?_
    exact W.iret (v := (((V 5)) k)) hx hb hr (fun t ht hW9 => ⟨_, rfl, (by unfold ck_bk; rw [if_neg c_7]), ht⟩) (fun _ h => nomatch h) dX5_bookedOf_20
  · skip
    refine lv_iconst (v := 0) hx hb dX5_bookedOf_10 (by decide) ?_
    refine lv_goto (tgt := 20) hx hb dX5_bookedOf_11 (by decide) ?_
    exact W.iret (v := 0) hx hb hr (fun t ht hW9 => ⟨_, rfl, (by unfold ck_bk; rw [if_pos c_7]), ht⟩) (fun _ h => nomatch h) dX5_bookedOf_20
theorem ck_ap_abs {x y : Int32} (hx : ck_rg 0 x 1000000) (hy : ck_rg 0 y 1000000) : ck_ap x y = ck_abs (y - x) := by
  obtain ⟨a1, a2⟩ := hx
  obtain ⟨b1, b2⟩ := hy
  have e1 : (y - x).toInt = y.toInt - x.toInt := fb_subI (by omega) (by omega)
  have e2 : (x - y).toInt = x.toInt - y.toInt := fb_subI (by omega) (by omega)
  unfold ck_ap ck_abs
  by_cases h : x < y
  · rw [if_pos h, if_pos (by rw [fa_le, e1, ck_toI0]; rw [fa_lt] at h; omega)]
  · rw [if_neg h]
    rw [fa_lt] at h
    by_cases h2 : 0 ≤ y - x
    · rw [if_pos h2]; rw [fa_le, e1, ck_toI0] at h2; rw [fa_eq, e1, e2]; omega
    · rw [if_neg h2, fa_eq, e2, fb_subI (by rw [e1, ck_toI0]; omega) (by rw [e1, ck_toI0]; omega), e1, ck_toI0]; omega
theorem ck_leg0 : ∀ b : Nat, b < 8 → ∀ q : Nat, q < 3 → ((nI b >>> (nI q &&& 31)) &&& 1 = 0 ↔ nI b &&& ((1 : Int32) <<< (nI q &&& 31)) = 0) := by decide +kernel
theorem ck_jn_go2 {m : Nat → Bool} {nc k z : Nat} (hk : k < nc) (hm : m k = false) (hI : ck_jn m k (nc - k) = z) : ck_jn m (k + 1) (nc - (k + 1)) = z := by
  rw [show nc - k = (nc - (k + 1)) + 1 by omega] at hI
  rw [← hI]; simp [ck_jn, hm]
theorem ck_jn_hit2 {m : Nat → Bool} {nc k z : Nat} (hk : k < nc) (hm : m k = true) (hI : ck_jn m k (nc - k) = z) : k = z := by
  rw [show nc - k = (nc - (k + 1)) + 1 by omega] at hI
  rw [← hI]; simp [ck_jn, hm]
theorem ck_jn_end2 {m : Nat → Bool} {nc z : Nat} (hI : ck_jn m nc (nc - nc) = z) : nc = z := by
  rw [Nat.sub_self] at hI; exact hI
set_option maxHeartbeats 4000000 in
set_option maxRecDepth 100000 in
theorem ct_X5_joined (l : Launch) (G : ck_G) (H : Heap) (ad : Nat → Nat) (N : Nat → Prop) (F : Nat → va_E) (hW : ck_W G ad N F H) (V : Nat → Nat → Int32) (L : Nat → Nat → Int64) (nc nr : Nat) (t : Int32) (hM : ck_M G ad V L nc nr t N F) (q : Nat) (hq : q < 3) (a1 a2 a3 : Int32) (hb1 : ∀ k, k < nc → ck_rg 0 (V 1 k) 1000000) (hb2 : ∀ k, k < nc → ck_rg 0 (V 2 k) 1000000) (hb3 : ∀ k, k < nc → ∃ b, b < 8 ∧ V 3 k = nI b) (h2 : ck_rg 0 a2 1000000) (h3 : ck_rg 0 a3 1000000) : Met l yX5_joined wsX5_joined ({ frames := 1, cells := 0, slots := 0, locals := 21 }) (ck_P G H [.ref (ad 30), .int (nI q), .int a1, .int a2, .int a3]) (vp_Si (fun r => r = nI (ck_jn (ck_mt V (V 13 0) (nI q) a1 a2 a3) 0 nc))) 0 0 (fun _ => False) := by
  refine Met.ofW (cc := cX5_joined) (maxL := 6) (ret := (some .int)) (by decide) rfl ?_
  intro p e s m args below meth c s₁ B hml hv
  obtain ⟨rfl, hH, hKK⟩ := hv
  subst hH
  have hx := B.exec
  have hb := B.bytes
  have hr := B.returns
  have hts := atoms_spec (ws := wsX5_joined) B.pre
  have hown : s.vm.findClass RX5 = some m.cls := findClass_of_methodNamed B.named
  have hlocks := B.notSynchronized
  have hKK0 := hKK
  have hK := hKK.1.1
  have hinX5 : ∀ w ∈ u_ws RX5 TX5 26, w ∈ wsX5_joined := by decide +kernel
  have hl := lv_entry ([.ref (ad 30), .int (nI q), .int a1, .int a2, .int a3]) (n := 6) (Nat.le_of_ble_eq_true rfl)
  rw [lg_entry_eq]
  generalize (lg_sl ([.ref (ad 30), .int (nI q), .int a1, .int a2, .int a3]) ++ List.replicate (6 - (lg_sl ([.ref (ad 30), .int (nI q), .int a1, .int a2, .int a3])).length) Slot.unset).toArray = ls at hl ⊢
  have hl : lv_has ls 6 [(0, .ref (ad 30)), (1, .int (nI q)), (2, .int a1), (3, .int a2), (4, .int a3)] := hl
  refine lv_iconst (v := 0) hx hb dX5_joined_0 (by decide) ?_
  refine lv_istore (lv' := [(5, .int 0), (0, .ref (ad 30)), (1, .int (nI q)), (2, .int a1), (3, .int a2), (4, .int a3)]) hx hb dX5_joined_1 hl (by decide) rfl (fun ls hl => ?_)
  refine ck_loop (P := fun ls => W p l e _ s m _ below meth c _ _ _ _ _ (F0 m _ ls _)) nc (fun k => [(5, .int (nI k)), (0, .ref (ad 30)), (1, .int (nI q)), (2, .int a1), (3, .int a2), (4, .int a3)]) (fun k => ck_jn (ck_mt V (V 13 0) (nI q) a1 a2 a3) k (nc - k) = ck_jn (ck_mt V (V 13 0) (nI q) a1 a2 a3) 0 nc) (lv_sub hl [0, 1, 2, 3, 4, 5] rfl) (rfl) ?_ ?_
  · intro ls hl hI3
    have hl : lv_has ls 6 [(5, .int (nI nc)), (0, .ref (ad 30)), (1, .int (nI q)), (2, .int a1), (3, .int a2), (4, .int a3)] := hl
    refine lv_iload hx hb dX5_joined_3 (lv_at hl 0 rfl) ?_
    refine lv_aload_n hx hb dX5_joined_5 rfl (lv_at hl 1 rfl) ?_
    refine ck_get (v := .int (nI nc)) hx hb hts hinX5 hown hK hW (hM.n 30 (by decide) (by decide)) hM.f30 rfl 6 (by decide) (hts _ (List.mem_of_getElem? (i := 1) rfl)) rfl rfl dX5_joined_6 ?_
    refine lv_icmp_ge (tgt := 83) hx hb dX5_joined_9 (by decide) (fun _ => ?_) (fun c_9 => absurd (Int32.le_refl _) c_9)
    refine lv_aload_n hx hb dX5_joined_83 rfl (lv_at hl 1 rfl) ?_
    refine ck_get (v := .int (nI nc)) hx hb hts hinX5 hown hK hW (hM.n 30 (by decide) (by decide)) hM.f30 rfl 6 (by decide) (hts _ (List.mem_of_getElem? (i := 1) rfl)) rfl rfl dX5_joined_84 ?_
    exact W.iret (v := (nI nc)) hx hb hr (fun t ht hW9 => ⟨_, rfl, congrArg nI (ck_jn_end2 hI3), ht⟩) (fun _ h => nomatch h) dX5_joined_87
  · intro k3 hk3 hI3 ih3 ls hl
    have hl : lv_has ls 6 [(5, .int (nI k3)), (0, .ref (ad 30)), (1, .int (nI q)), (2, .int a1), (3, .int a2), (4, .int a3)] := hl
    obtain ⟨b3, hb38, eb3⟩ := hb3 k3 hk3
    refine lv_iload hx hb dX5_joined_3 (lv_at hl 0 rfl) ?_
    refine lv_aload_n hx hb dX5_joined_5 rfl (lv_at hl 1 rfl) ?_
    refine ck_get (v := .int (nI nc)) hx hb hts hinX5 hown hK hW (hM.n 30 (by decide) (by decide)) hM.f30 rfl 6 (by decide) (hts _ (List.mem_of_getElem? (i := 1) rfl)) rfl rfl dX5_joined_6 ?_
    refine lv_icmp_ge (tgt := 83) hx hb dX5_joined_9 (by decide) (fun c_9 => absurd c_9 (nI_ge hk3 (by have := hM.nc; omega))) (fun _ => ?_)
    refine lv_aload_n hx hb dX5_joined_12 rfl (lv_at hl 1 rfl) ?_
    refine ck_get (v := .ref (ad 36)) hx hb hts hinX5 hown hK hW (hM.n 30 (by decide) (by decide)) hM.f30 rfl 7 (by decide) (hts _ (List.mem_of_getElem? (i := 2) rfl)) rfl rfl dX5_joined_13 ?_
    refine lv_iload hx hb dX5_joined_16 (lv_at hl 0 rfl) ?_
    refine ck_iald hx hb hK hW (hM.n 36 (by decide) (by decide)) hM.f36 k3 (rfl) (by have := hM.nc; omega) (by decide) dX5_joined_18 ?_
    refine lv_iload_n hx hb dX5_joined_19 rfl (lv_at hl 3 rfl) ?_
    refine lv_icmp_ne (tgt := 77) hx hb dX5_joined_20 (by decide) (fun c_20 => ?_) (fun c_20 => ?_)
    · skip
      refine lv_iinc (v := nI (k3 + 1)) (lv' := [(5, .int (nI (k3 + 1))), (0, .ref (ad 30)), (1, .int (nI q)), (2, .int a1), (3, .int a2), (4, .int a3)]) hx hb dX5_joined_77 hl (k := 0) rfl (nI_1 k3) (by decide) rfl (fun ls hl => ?_)
      refine lv_goto (tgt := 3) hx hb dX5_joined_80 (by decide) ?_
      exact ih3 ls (lv_sub hl [0, 1, 2, 3, 4, 5] rfl) (ck_jn_go2 hk3 (decide_eq_false fun z => c_20 z.1) hI3)
    · skip
      refine lv_aload_n hx hb dX5_joined_23 rfl (lv_at hl 1 rfl) ?_
      refine ck_get (v := .ref (ad 40)) hx hb hts hinX5 hown hK hW (hM.n 30 (by decide) (by decide)) hM.f30 rfl 11 (by decide) (hts _ (List.mem_of_getElem? (i := 3) rfl)) rfl rfl dX5_joined_24 ?_
      refine lv_iload hx hb dX5_joined_27 (lv_at hl 0 rfl) ?_
      refine ck_iald hx hb hK hW (hM.n 40 (by decide) (by decide)) hM.f40 k3 (rfl) (by have := hM.nc; omega) (by decide) dX5_joined_29 ?_
      refine lv_iload_n hx hb dX5_joined_30 rfl (lv_at hl 2 rfl) ?_
      refine lv_ishr hx hb dX5_joined_31 ?_
      refine lv_iconst (v := 1) hx hb dX5_joined_32 (by decide) ?_
      refine lv_iand hx hb dX5_joined_33 ?_
      refine lv_if_ne (tgt := 77) hx hb dX5_joined_34 (by decide) (fun c_34 => ?_) (fun c_34 => ?_)
      · skip
        refine lv_iinc (v := nI (k3 + 1)) (lv' := [(5, .int (nI (k3 + 1))), (0, .ref (ad 30)), (1, .int (nI q)), (2, .int a1), (3, .int a2), (4, .int a3)]) hx hb dX5_joined_77 hl (k := 0) rfl (nI_1 k3) (by decide) rfl (fun ls hl => ?_)
        refine lv_goto (tgt := 3) hx hb dX5_joined_80 (by decide) ?_
        exact ih3 ls (lv_sub hl [0, 1, 2, 3, 4, 5] rfl) (ck_jn_go2 hk3 (decide_eq_false fun z => c_34 (by rw [eb3]; exact (ck_leg0 b3 hb38 q hq).mpr (by rw [← eb3]; exact z.2.1))) hI3)
      · skip
        refine lv_aload_n hx hb dX5_joined_37 rfl (lv_at hl 1 rfl) ?_
        refine ck_get (v := .ref (ad 37)) hx hb hts hinX5 hown hK hW (hM.n 30 (by decide) (by decide)) hM.f30 rfl 8 (by decide) (hts _ (List.mem_of_getElem? (i := 4) rfl)) rfl rfl dX5_joined_38 ?_
        refine lv_iload hx hb dX5_joined_41 (lv_at hl 0 rfl) ?_
        refine ck_iald hx hb hK hW (hM.n 37 (by decide) (by decide)) hM.f37 k3 (rfl) (by have := hM.nc; omega) (by decide) dX5_joined_43 ?_
        refine lv_iload_n hx hb dX5_joined_44 rfl (lv_at hl 4 rfl) ?_
        refine ck_cSi (As := [.int (((V 1)) k3), .int a2]) (rest := []) ⟨hx, hb, hml, hown, hts⟩ hKK (ct_X5_apart l G s.heap ((((V 1)) k3)) a2) (va_cwS 2 hts gX5_joined_X5_apart rfl rfl rfl (by decide +kernel) ⟨Nat.le_of_ble_eq_true rfl, Nat.le_of_ble_eq_true rfl⟩) rfl hl rfl (Nat.le_of_ble_eq_true rfl) dX5_joined_45 ⟨Nat.le_of_ble_eq_true rfl, Nat.le_of_ble_eq_true rfl⟩ (fun r_45 h_45 => ?_)
        subst h_45
        refine lv_aload_n hx hb dX5_joined_48 rfl (lv_at hl 1 rfl) ?_
        refine ck_get (v := .int (V 13 0)) hx hb hts hinX5 hown hK hW (hM.n 30 (by decide) (by decide)) hM.f30 rfl 0 (by decide) (hts _ (List.mem_of_getElem? (i := 5) rfl)) rfl rfl dX5_joined_49 ?_
        refine lv_icmp_gt (tgt := 77) hx hb dX5_joined_52 (by decide) (fun c_52 => ?_) (fun c_52 => ?_)
        · skip
          refine lv_iinc (v := nI (k3 + 1)) (lv' := [(5, .int (nI (k3 + 1))), (0, .ref (ad 30)), (1, .int (nI q)), (2, .int a1), (3, .int a2), (4, .int a3)]) hx hb dX5_joined_77 hl (k := 0) rfl (nI_1 k3) (by decide) rfl (fun ls hl => ?_)
          refine lv_goto (tgt := 3) hx hb dX5_joined_80 (by decide) ?_
          exact ih3 ls (lv_sub hl [0, 1, 2, 3, 4, 5] rfl) (ck_jn_go2 hk3 (decide_eq_false fun z => absurd z.2.2.1 (Int32.not_le.mpr (by rw [← ck_ap_abs (hb1 k3 hk3) h2]; exact c_52))) hI3)
        · skip
          refine lv_aload_n hx hb dX5_joined_55 rfl (lv_at hl 1 rfl) ?_
          refine ck_get (v := .ref (ad 38)) hx hb hts hinX5 hown hK hW (hM.n 30 (by decide) (by decide)) hM.f30 rfl 9 (by decide) (hts _ (List.mem_of_getElem? (i := 6) rfl)) rfl rfl dX5_joined_56 ?_
          refine lv_iload hx hb dX5_joined_59 (lv_at hl 0 rfl) ?_
          refine ck_iald hx hb hK hW (hM.n 38 (by decide) (by decide)) hM.f38 k3 (rfl) (by have := hM.nc; omega) (by decide) dX5_joined_61 ?_
          refine lv_iload hx hb dX5_joined_62 (lv_at hl 5 rfl) ?_
          refine ck_cSi (As := [.int (((V 2)) k3), .int a3]) (rest := []) ⟨hx, hb, hml, hown, hts⟩ hKK (ct_X5_apart l G s.heap ((((V 2)) k3)) a3) (va_cwS 2 hts gX5_joined_X5_apart rfl rfl rfl (by decide +kernel) ⟨Nat.le_of_ble_eq_true rfl, Nat.le_of_ble_eq_true rfl⟩) rfl hl rfl (Nat.le_of_ble_eq_true rfl) dX5_joined_64 ⟨Nat.le_of_ble_eq_true rfl, Nat.le_of_ble_eq_true rfl⟩ (fun r_64 h_64 => ?_)
          subst h_64
          refine lv_aload_n hx hb dX5_joined_67 rfl (lv_at hl 1 rfl) ?_
          refine ck_get (v := .int (V 13 0)) hx hb hts hinX5 hown hK hW (hM.n 30 (by decide) (by decide)) hM.f30 rfl 0 (by decide) (hts _ (List.mem_of_getElem? (i := 5) rfl)) rfl rfl dX5_joined_68 ?_
          refine lv_icmp_gt (tgt := 77) hx hb dX5_joined_71 (by decide) (fun c_71 => ?_) (fun c_71 => ?_)
          · skip
            refine lv_iinc (v := nI (k3 + 1)) (lv' := [(5, .int (nI (k3 + 1))), (0, .ref (ad 30)), (1, .int (nI q)), (2, .int a1), (3, .int a2), (4, .int a3)]) hx hb dX5_joined_77 hl (k := 0) rfl (nI_1 k3) (by decide) rfl (fun ls hl => ?_)
            refine lv_goto (tgt := 3) hx hb dX5_joined_80 (by decide) ?_
            exact ih3 ls (lv_sub hl [0, 1, 2, 3, 4, 5] rfl) (ck_jn_go2 hk3 (decide_eq_false fun z => absurd z.2.2.2 (Int32.not_le.mpr (by rw [← ck_ap_abs (hb2 k3 hk3) h3]; exact c_71))) hI3)
          · skip
            refine lv_iload hx hb dX5_joined_74 (lv_at hl 0 rfl) ?_
            exact W.iret (v := (nI k3)) hx hb hr (fun t ht hW9 => ⟨_, rfl, congrArg nI (ck_jn_hit2 hk3 (decide_eq_true ⟨c_20, by rw [eb3]; exact (ck_leg0 b3 hb38 q hq).mp (by rw [← eb3]; exact c_34), by rw [← ck_ap_abs (hb1 k3 hk3) h2]; exact Int32.not_lt.mp c_52, by rw [← ck_ap_abs (hb2 k3 hk3) h3]; exact Int32.not_lt.mp c_71⟩) hI3), ht⟩) (fun _ h => nomatch h) dX5_joined_76
def ck_bi : Option Nat → Int32
  | none => -1
  | some b => nI b
theorem ck_best_yes2 {V : Nat → Nat → Int32} {x d : Int32} {k : Nat} (h1 : V 8 k ≤ d) (h2 : ck_fit (V 7 k) x = true) (h3 : ck_over V k (ck_best V x d k) = true) : ck_best V x d (k + 1) = some k := by
  simp only [ck_best]; rw [if_pos ⟨h1, h2, h3⟩]
theorem ck_best_no2 {V : Nat → Nat → Int32} {x d : Int32} {k : Nat} (h : ¬ (V 8 k ≤ d ∧ ck_fit (V 7 k) x = true ∧ ck_over V k (ck_best V x d k) = true)) : ck_best V x d (k + 1) = ck_best V x d k := by
  simp only [ck_best]; rw [if_neg h]
set_option maxHeartbeats 4000000 in
set_option maxRecDepth 100000 in
theorem ct_X5_rate (l : Launch) (G : ck_G) (H : Heap) (ad : Nat → Nat) (N : Nat → Prop) (F : Nat → va_E) (hW : ck_W G ad N F H) (V : Nat → Nat → Int32) (L : Nat → Nat → Int64) (nc nr : Nat) (t : Int32) (hM : ck_M G ad V L nc nr t N F) (a0 a1 : Int32) (hp7 : ∀ k, k < nr → 0 ≤ (V 7 k).toInt) (h0 : ck_rg 0 a0 99999999) : Met l yX5_rate wsX5_rate ({ frames := 1, cells := 0, slots := 0, locals := 22 }) (ck_P G H [.ref (ad 30), .int a0, .int a1]) (vp_Si (fun r => r = ck_bi (ck_best V a0 a1 nr))) 0 0 (fun _ => False) := by
  refine Met.ofW (cc := cX5_rate) (maxL := 6) (ret := (some .int)) (by decide) rfl ?_
  intro p e s m args below meth c s₁ B hml hv
  obtain ⟨rfl, hH, hKK⟩ := hv
  subst hH
  have hx := B.exec
  have hb := B.bytes
  have hr := B.returns
  have hts := atoms_spec (ws := wsX5_rate) B.pre
  have hown : s.vm.findClass RX5 = some m.cls := findClass_of_methodNamed B.named
  have hlocks := B.notSynchronized
  have hKK0 := hKK
  have hK := hKK.1.1
  have hinX5 : ∀ w ∈ u_ws RX5 TX5 26, w ∈ wsX5_rate := by decide +kernel
  have hl := lv_entry ([.ref (ad 30), .int a0, .int a1]) (n := 6) (Nat.le_of_ble_eq_true rfl)
  rw [lg_entry_eq]
  generalize (lg_sl ([.ref (ad 30), .int a0, .int a1]) ++ List.replicate (6 - (lg_sl ([.ref (ad 30), .int a0, .int a1])).length) Slot.unset).toArray = ls at hl ⊢
  have hl : lv_has ls 6 [(0, .ref (ad 30)), (1, .int a0), (2, .int a1)] := hl
  refine lv_iconst (v := (-1)) hx hb dX5_rate_0 (by decide) ?_
  refine lv_istore_n (lv' := [(3, .int (-1)), (0, .ref (ad 30)), (1, .int a0), (2, .int a1)]) hx hb dX5_rate_1 rfl hl (by decide) rfl (fun ls hl => ?_)
  refine lv_iconst (v := 0) hx hb dX5_rate_2 (by decide) ?_
  refine lv_istore (lv' := [(4, .int 0), (3, .int (-1)), (0, .ref (ad 30)), (1, .int a0), (2, .int a1)]) hx hb dX5_rate_3 hl (by decide) rfl (fun ls hl => ?_)
  refine ck_loop (P := fun ls => W p l e _ s m _ below meth c _ _ _ _ _ (F0 m _ ls _)) nr (fun k => [(4, .int (nI k)), (3, .int (ck_bi (ck_best V a0 a1 k))), (0, .ref (ad 30)), (1, .int a0), (2, .int a1)]) (fun k => True) (lv_sub hl [0, 1, 2, 3, 4] rfl) (trivial) ?_ ?_
  · intro ls hl hI5
    have hl : lv_has ls 6 [(4, .int (nI nr)), (3, .int (ck_bi (ck_best V a0 a1 nr))), (0, .ref (ad 30)), (1, .int a0), (2, .int a1)] := hl
    refine lv_iload hx hb dX5_rate_5 (lv_at hl 0 rfl) ?_
    refine lv_aload_n hx hb dX5_rate_7 rfl (lv_at hl 2 rfl) ?_
    refine ck_get (v := .int (nI nr)) hx hb hts hinX5 hown hK hW (hM.n 30 (by decide) (by decide)) hM.f30 rfl 15 (by decide) (hts _ (List.mem_of_getElem? (i := 1) rfl)) rfl rfl dX5_rate_8 ?_
    refine lv_icmp_ge (tgt := 117) hx hb dX5_rate_11 (by decide) (fun _ => ?_) (fun c_11 => absurd (Int32.le_refl _) c_11)
    refine lv_iload_n hx hb dX5_rate_117 rfl (lv_at hl 1 rfl) ?_
    exact W.iret (v := (ck_bi (ck_best V a0 a1 nr))) hx hb hr (fun t ht hW9 => ⟨_, rfl, rfl, ht⟩) (fun _ h => nomatch h) dX5_rate_118
  · intro k5 hk5 hI5 ih5 ls hl
    have hl : lv_has ls 6 [(4, .int (nI k5)), (3, .int (ck_bi (ck_best V a0 a1 k5))), (0, .ref (ad 30)), (1, .int a0), (2, .int a1)] := hl
    refine lv_iload hx hb dX5_rate_5 (lv_at hl 0 rfl) ?_
    refine lv_aload_n hx hb dX5_rate_7 rfl (lv_at hl 2 rfl) ?_
    refine ck_get (v := .int (nI nr)) hx hb hts hinX5 hown hK hW (hM.n 30 (by decide) (by decide)) hM.f30 rfl 15 (by decide) (hts _ (List.mem_of_getElem? (i := 1) rfl)) rfl rfl dX5_rate_8 ?_
    refine lv_icmp_ge (tgt := 117) hx hb dX5_rate_11 (by decide) (fun c_11 => absurd c_11 (nI_ge hk5 (by have := hM.nr; omega))) (fun _ => ?_)
    refine lv_aload_n hx hb dX5_rate_14 rfl (lv_at hl 2 rfl) ?_
    refine ck_get (v := .ref (ad 43)) hx hb hts hinX5 hown hK hW (hM.n 30 (by decide) (by decide)) hM.f30 rfl 16 (by decide) (hts _ (List.mem_of_getElem? (i := 2) rfl)) rfl rfl dX5_rate_15 ?_
    refine lv_iload hx hb dX5_rate_18 (lv_at hl 0 rfl) ?_
    refine ck_iald hx hb hK hW (hM.n 43 (by decide) (by decide)) hM.f43 k5 (rfl) (by have := hM.nr; omega) (by decide) dX5_rate_20 ?_
    refine lv_iload_n hx hb dX5_rate_21 rfl (lv_at hl 3 rfl) ?_
    refine ck_cSi (As := [.int (((V 7)) k5), .int a0]) (rest := []) ⟨hx, hb, hml, hown, hts⟩ hKK (ct_X5_fits l G s.heap ((((V 7)) k5)) a0 (hp7 k5 hk5) h0.1 h0.2) (va_cwS 2 hts gX5_rate_X5_fits rfl rfl rfl (by decide +kernel) ⟨Nat.le_of_ble_eq_true rfl, Nat.le_of_ble_eq_true rfl⟩) rfl hl rfl (Nat.le_of_ble_eq_true rfl) dX5_rate_22 ⟨Nat.le_of_ble_eq_true rfl, Nat.le_of_ble_eq_true rfl⟩ (fun r_22 h_22 => ?_)
    rcases h_22 with ⟨h_22, rfl⟩ | ⟨h_22, rfl⟩
    · skip
      refine lv_if_eq (tgt := 111) hx hb dX5_rate_25 (by decide) (fun c_25 => absurd c_25 (by decide)) (fun _ => ?_)
      refine lv_aload_n hx hb dX5_rate_28 rfl (lv_at hl 2 rfl) ?_
      refine ck_get (v := .ref (ad 44)) hx hb hts hinX5 hown hK hW (hM.n 30 (by decide) (by decide)) hM.f30 rfl 17 (by decide) (hts _ (List.mem_of_getElem? (i := 3) rfl)) rfl rfl dX5_rate_29 ?_
      refine lv_iload hx hb dX5_rate_32 (lv_at hl 0 rfl) ?_
      refine ck_iald hx hb hK hW (hM.n 44 (by decide) (by decide)) hM.f44 k5 (rfl) (by have := hM.nr; omega) (by decide) dX5_rate_34 ?_
      refine lv_iload_n hx hb dX5_rate_35 rfl (lv_at hl 4 rfl) ?_
      refine lv_icmp_gt (tgt := 111) hx hb dX5_rate_36 (by decide) (fun c_36 => ?_) (fun c_36 => ?_)
      · skip
        refine lv_iinc (v := nI (k5 + 1)) (lv' := [(4, .int (nI (k5 + 1))), (3, .int (ck_bi (ck_best V a0 a1 k5))), (0, .ref (ad 30)), (1, .int a0), (2, .int a1)]) hx hb dX5_rate_111 hl (k := 0) rfl (nI_1 k5) (by decide) rfl (fun ls hl => ?_)
        refine lv_goto (tgt := 5) hx hb dX5_rate_114 (by decide) ?_
        have e9 : ck_best V a0 a1 (k5 + 1) = _ := ck_best_no2 (fun z => absurd z.1 (Int32.not_le.mpr c_36))
        have hl : lv_has ls 6 [(4, .int (nI (k5 + 1))), (3, .int (ck_bi (ck_best V a0 a1 (k5 + 1)))), (0, .ref (ad 30)), (1, .int a0), (2, .int a1)] := by rw [e9]; exact hl
        exact ih5 ls (lv_sub hl [0, 1, 2, 3, 4] rfl) (trivial)
      · skip
        obtain ⟨ob, hob⟩ : ∃ ob, ck_best V a0 a1 k5 = ob := ⟨_, rfl⟩
        rw [hob] at hl
        rcases ob with _ | b
        · skip
          have hl : lv_has ls 6 [(4, .int (nI k5)), (3, .int (-1)), (0, .ref (ad 30)), (1, .int a0), (2, .int a1)] := hl
          refine lv_iload_n hx hb dX5_rate_39 rfl (lv_at hl 1 rfl) ?_
          refine lv_iconst (v := (-1)) hx hb dX5_rate_40 (by decide) ?_
          refine lv_icmp_eq (tgt := 92) hx hb dX5_rate_41 (by decide) (fun _ => ?_) (fun c_41 => absurd (by decide) c_41)
          refine lv_iconst (v := 1) hx hb dX5_rate_92 (by decide) ?_
          refine lv_goto (tgt := 97) hx hb dX5_rate_93 (by decide) ?_
          refine lv_istore (lv' := [(5, .int 1), (4, .int (nI k5)), (3, .int (-1)), (0, .ref (ad 30)), (1, .int a0), (2, .int a1)]) hx hb dX5_rate_97 hl (by decide) rfl (fun ls hl => ?_)
          refine lv_iload hx hb dX5_rate_99 (lv_at hl 0 rfl) ?_
          refine lv_if_eq (tgt := 109) hx hb dX5_rate_101 (by decide) (fun c_101 => absurd c_101 (by decide)) (fun _ => ?_)
          refine lv_iload hx hb dX5_rate_104 (lv_at hl 1 rfl) ?_
          refine lv_goto (tgt := 110) hx hb dX5_rate_106 (by decide) ?_
          refine lv_istore_n (lv' := [(3, .int (nI k5)), (5, .int 1), (4, .int (nI k5)), (0, .ref (ad 30)), (1, .int a0), (2, .int a1)]) hx hb dX5_rate_110 rfl hl (by decide) rfl (fun ls hl => ?_)
          refine lv_iinc (v := nI (k5 + 1)) (lv' := [(4, .int (nI (k5 + 1))), (3, .int (nI k5)), (5, .int 1), (0, .ref (ad 30)), (1, .int a0), (2, .int a1)]) hx hb dX5_rate_111 hl (k := 2) rfl (nI_1 k5) (by decide) rfl (fun ls hl => ?_)
          refine lv_goto (tgt := 5) hx hb dX5_rate_114 (by decide) ?_
          have e9 : ck_best V a0 a1 (k5 + 1) = _ := ck_best_yes2 (Int32.not_lt.mp c_36) h_22 (by rw [hob]; rfl)
          have hl : lv_has ls 6 [(4, .int (nI (k5 + 1))), (3, .int (ck_bi (ck_best V a0 a1 (k5 + 1)))), (5, .int 1), (0, .ref (ad 30)), (1, .int a0), (2, .int a1)] := by rw [e9]; exact hl
          exact ih5 ls (lv_sub hl [0, 1, 3, 4, 5] rfl) (trivial)
        · skip
          have hbk : b < k5 := ck_best_lt hob
          have hl : lv_has ls 6 [(4, .int (nI k5)), (3, .int (nI b)), (0, .ref (ad 30)), (1, .int a0), (2, .int a1)] := hl
          refine lv_iload_n hx hb dX5_rate_39 rfl (lv_at hl 1 rfl) ?_
          refine lv_iconst (v := (-1)) hx hb dX5_rate_40 (by decide) ?_
          refine lv_icmp_eq (tgt := 92) hx hb dX5_rate_41 (by decide) (fun c_41 => absurd c_41 (ck_m1 (by have := hM.nr; omega))) (fun _ => ?_)
          refine lv_aload_n hx hb dX5_rate_44 rfl (lv_at hl 2 rfl) ?_
          refine ck_get (v := .ref (ad 43)) hx hb hts hinX5 hown hK hW (hM.n 30 (by decide) (by decide)) hM.f30 rfl 16 (by decide) (hts _ (List.mem_of_getElem? (i := 2) rfl)) rfl rfl dX5_rate_45 ?_
          refine lv_iload hx hb dX5_rate_48 (lv_at hl 0 rfl) ?_
          refine ck_iald hx hb hK hW (hM.n 43 (by decide) (by decide)) hM.f43 k5 (rfl) (by have := hM.nr; omega) (by decide) dX5_rate_50 ?_
          refine lv_aload_n hx hb dX5_rate_51 rfl (lv_at hl 2 rfl) ?_
          refine ck_get (v := .ref (ad 43)) hx hb hts hinX5 hown hK hW (hM.n 30 (by decide) (by decide)) hM.f30 rfl 16 (by decide) (hts _ (List.mem_of_getElem? (i := 2) rfl)) rfl rfl dX5_rate_52 ?_
          refine lv_iload_n hx hb dX5_rate_55 rfl (lv_at hl 1 rfl) ?_
          refine ck_iald hx hb hK hW (hM.n 43 (by decide) (by decide)) hM.f43 b (rfl) (by have := hM.nr; omega) (by decide) dX5_rate_56 ?_
          refine lv_icmp_gt (tgt := 92) hx hb dX5_rate_57 (by decide) (fun c_57 => ?_) (fun c_57 => ?_)
          · skip
            refine lv_iconst (v := 1) hx hb dX5_rate_92 (by decide) ?_
            refine lv_goto (tgt := 97) hx hb dX5_rate_93 (by decide) ?_
            refine lv_istore (lv' := [(5, .int 1), (4, .int (nI k5)), (3, .int (nI b)), (0, .ref (ad 30)), (1, .int a0), (2, .int a1)]) hx hb dX5_rate_97 hl (by decide) rfl (fun ls hl => ?_)
            refine lv_iload hx hb dX5_rate_99 (lv_at hl 0 rfl) ?_
            refine lv_if_eq (tgt := 109) hx hb dX5_rate_101 (by decide) (fun c_101 => absurd c_101 (by decide)) (fun _ => ?_)
            refine lv_iload hx hb dX5_rate_104 (lv_at hl 1 rfl) ?_
            refine lv_goto (tgt := 110) hx hb dX5_rate_106 (by decide) ?_
            refine lv_istore_n (lv' := [(3, .int (nI k5)), (5, .int 1), (4, .int (nI k5)), (0, .ref (ad 30)), (1, .int a0), (2, .int a1)]) hx hb dX5_rate_110 rfl hl (by decide) rfl (fun ls hl => ?_)
            refine lv_iinc (v := nI (k5 + 1)) (lv' := [(4, .int (nI (k5 + 1))), (3, .int (nI k5)), (5, .int 1), (0, .ref (ad 30)), (1, .int a0), (2, .int a1)]) hx hb dX5_rate_111 hl (k := 2) rfl (nI_1 k5) (by decide) rfl (fun ls hl => ?_)
            refine lv_goto (tgt := 5) hx hb dX5_rate_114 (by decide) ?_
            have e9 : ck_best V a0 a1 (k5 + 1) = _ := ck_best_yes2 (Int32.not_lt.mp c_36) h_22 (by rw [hob]; exact decide_eq_true (Or.inl c_57))
            have hl : lv_has ls 6 [(4, .int (nI (k5 + 1))), (3, .int (ck_bi (ck_best V a0 a1 (k5 + 1)))), (5, .int 1), (0, .ref (ad 30)), (1, .int a0), (2, .int a1)] := by rw [e9]; exact hl
            exact ih5 ls (lv_sub hl [0, 1, 3, 4, 5] rfl) (trivial)
          · skip
            refine lv_aload_n hx hb dX5_rate_60 rfl (lv_at hl 2 rfl) ?_
            refine ck_get (v := .ref (ad 43)) hx hb hts hinX5 hown hK hW (hM.n 30 (by decide) (by decide)) hM.f30 rfl 16 (by decide) (hts _ (List.mem_of_getElem? (i := 2) rfl)) rfl rfl dX5_rate_61 ?_
            refine lv_iload hx hb dX5_rate_64 (lv_at hl 0 rfl) ?_
            refine ck_iald hx hb hK hW (hM.n 43 (by decide) (by decide)) hM.f43 k5 (rfl) (by have := hM.nr; omega) (by decide) dX5_rate_66 ?_
            refine lv_aload_n hx hb dX5_rate_67 rfl (lv_at hl 2 rfl) ?_
            refine ck_get (v := .ref (ad 43)) hx hb hts hinX5 hown hK hW (hM.n 30 (by decide) (by decide)) hM.f30 rfl 16 (by decide) (hts _ (List.mem_of_getElem? (i := 2) rfl)) rfl rfl dX5_rate_68 ?_
            refine lv_iload_n hx hb dX5_rate_71 rfl (lv_at hl 1 rfl) ?_
            refine ck_iald hx hb hK hW (hM.n 43 (by decide) (by decide)) hM.f43 b (rfl) (by have := hM.nr; omega) (by decide) dX5_rate_72 ?_
            refine lv_icmp_ne (tgt := 96) hx hb dX5_rate_73 (by decide) (fun c_73 => ?_) (fun c_73 => ?_)
            · skip
              refine lv_iconst (v := 0) hx hb dX5_rate_96 (by decide) ?_
              refine lv_istore (lv' := [(5, .int 0), (4, .int (nI k5)), (3, .int (nI b)), (0, .ref (ad 30)), (1, .int a0), (2, .int a1)]) hx hb dX5_rate_97 hl (by decide) rfl (fun ls hl => ?_)
              refine lv_iload hx hb dX5_rate_99 (lv_at hl 0 rfl) ?_
              refine lv_if_eq (tgt := 109) hx hb dX5_rate_101 (by decide) (fun _ => ?_) (fun c_101 => absurd (by decide) c_101)
              refine lv_iload_n hx hb dX5_rate_109 rfl (lv_at hl 2 rfl) ?_
              refine lv_istore_n (lv' := [(3, .int (nI b)), (5, .int 0), (4, .int (nI k5)), (0, .ref (ad 30)), (1, .int a0), (2, .int a1)]) hx hb dX5_rate_110 rfl hl (by decide) rfl (fun ls hl => ?_)
              refine lv_iinc (v := nI (k5 + 1)) (lv' := [(4, .int (nI (k5 + 1))), (3, .int (nI b)), (5, .int 0), (0, .ref (ad 30)), (1, .int a0), (2, .int a1)]) hx hb dX5_rate_111 hl (k := 2) rfl (nI_1 k5) (by decide) rfl (fun ls hl => ?_)
              refine lv_goto (tgt := 5) hx hb dX5_rate_114 (by decide) ?_
              have e9 : ck_best V a0 a1 (k5 + 1) = _ := ck_best_no2 (fun z => by have z2 := z.2.2; rw [hob] at z2; rcases of_decide_eq_true z2 with y | y; exact c_57 y; exact c_73 y.1.symm)
              have hl : lv_has ls 6 [(4, .int (nI (k5 + 1))), (3, .int (ck_bi (ck_best V a0 a1 (k5 + 1)))), (5, .int 0), (0, .ref (ad 30)), (1, .int a0), (2, .int a1)] := by rw [e9, hob]; exact hl
              exact ih5 ls (lv_sub hl [0, 1, 3, 4, 5] rfl) (trivial)
            · skip
              refine lv_aload_n hx hb dX5_rate_76 rfl (lv_at hl 2 rfl) ?_
              refine ck_get (v := .ref (ad 44)) hx hb hts hinX5 hown hK hW (hM.n 30 (by decide) (by decide)) hM.f30 rfl 17 (by decide) (hts _ (List.mem_of_getElem? (i := 3) rfl)) rfl rfl dX5_rate_77 ?_
              refine lv_iload hx hb dX5_rate_80 (lv_at hl 0 rfl) ?_
              refine ck_iald hx hb hK hW (hM.n 44 (by decide) (by decide)) hM.f44 k5 (rfl) (by have := hM.nr; omega) (by decide) dX5_rate_82 ?_
              refine lv_aload_n hx hb dX5_rate_83 rfl (lv_at hl 2 rfl) ?_
              refine ck_get (v := .ref (ad 44)) hx hb hts hinX5 hown hK hW (hM.n 30 (by decide) (by decide)) hM.f30 rfl 17 (by decide) (hts _ (List.mem_of_getElem? (i := 3) rfl)) rfl rfl dX5_rate_84 ?_
              refine lv_iload_n hx hb dX5_rate_87 rfl (lv_at hl 1 rfl) ?_
              refine ck_iald hx hb hK hW (hM.n 44 (by decide) (by decide)) hM.f44 b (rfl) (by have := hM.nr; omega) (by decide) dX5_rate_88 ?_
              refine lv_icmp_lt (tgt := 96) hx hb dX5_rate_89 (by decide) (fun c_89 => ?_) (fun c_89 => ?_)
              · skip
                refine lv_iconst (v := 0) hx hb dX5_rate_96 (by decide) ?_
                refine lv_istore (lv' := [(5, .int 0), (4, .int (nI k5)), (3, .int (nI b)), (0, .ref (ad 30)), (1, .int a0), (2, .int a1)]) hx hb dX5_rate_97 hl (by decide) rfl (fun ls hl => ?_)
                refine lv_iload hx hb dX5_rate_99 (lv_at hl 0 rfl) ?_
                refine lv_if_eq (tgt := 109) hx hb dX5_rate_101 (by decide) (fun _ => ?_) (fun c_101 => absurd (by decide) c_101)
                refine lv_iload_n hx hb dX5_rate_109 rfl (lv_at hl 2 rfl) ?_
                refine lv_istore_n (lv' := [(3, .int (nI b)), (5, .int 0), (4, .int (nI k5)), (0, .ref (ad 30)), (1, .int a0), (2, .int a1)]) hx hb dX5_rate_110 rfl hl (by decide) rfl (fun ls hl => ?_)
                refine lv_iinc (v := nI (k5 + 1)) (lv' := [(4, .int (nI (k5 + 1))), (3, .int (nI b)), (5, .int 0), (0, .ref (ad 30)), (1, .int a0), (2, .int a1)]) hx hb dX5_rate_111 hl (k := 2) rfl (nI_1 k5) (by decide) rfl (fun ls hl => ?_)
                refine lv_goto (tgt := 5) hx hb dX5_rate_114 (by decide) ?_
                have e9 : ck_best V a0 a1 (k5 + 1) = _ := ck_best_no2 (fun z => by have z2 := z.2.2; rw [hob] at z2; rcases of_decide_eq_true z2 with y | y; exact c_57 y; exact absurd y.2 (Int32.not_le.mpr c_89))
                have hl : lv_has ls 6 [(4, .int (nI (k5 + 1))), (3, .int (ck_bi (ck_best V a0 a1 (k5 + 1)))), (5, .int 0), (0, .ref (ad 30)), (1, .int a0), (2, .int a1)] := by rw [e9, hob]; exact hl
                exact ih5 ls (lv_sub hl [0, 1, 3, 4, 5] rfl) (trivial)
              · skip
                refine lv_iconst (v := 1) hx hb dX5_rate_92 (by decide) ?_
                refine lv_goto (tgt := 97) hx hb dX5_rate_93 (by decide) ?_
                refine lv_istore (lv' := [(5, .int 1), (4, .int (nI k5)), (3, .int (nI b)), (0, .ref (ad 30)), (1, .int a0), (2, .int a1)]) hx hb dX5_rate_97 hl (by decide) rfl (fun ls hl => ?_)
                refine lv_iload hx hb dX5_rate_99 (lv_at hl 0 rfl) ?_
                refine lv_if_eq (tgt := 109) hx hb dX5_rate_101 (by decide) (fun c_101 => absurd c_101 (by decide)) (fun _ => ?_)
                refine lv_iload hx hb dX5_rate_104 (lv_at hl 1 rfl) ?_
                refine lv_goto (tgt := 110) hx hb dX5_rate_106 (by decide) ?_
                refine lv_istore_n (lv' := [(3, .int (nI k5)), (5, .int 1), (4, .int (nI k5)), (0, .ref (ad 30)), (1, .int a0), (2, .int a1)]) hx hb dX5_rate_110 rfl hl (by decide) rfl (fun ls hl => ?_)
                refine lv_iinc (v := nI (k5 + 1)) (lv' := [(4, .int (nI (k5 + 1))), (3, .int (nI k5)), (5, .int 1), (0, .ref (ad 30)), (1, .int a0), (2, .int a1)]) hx hb dX5_rate_111 hl (k := 2) rfl (nI_1 k5) (by decide) rfl (fun ls hl => ?_)
                refine lv_goto (tgt := 5) hx hb dX5_rate_114 (by decide) ?_
                have e9 : ck_best V a0 a1 (k5 + 1) = _ := ck_best_yes2 (Int32.not_lt.mp c_36) h_22 (by rw [hob]; exact decide_eq_true (Or.inr ⟨c_73.symm, Int32.not_lt.mp c_89⟩))
                have hl : lv_has ls 6 [(4, .int (nI (k5 + 1))), (3, .int (ck_bi (ck_best V a0 a1 (k5 + 1)))), (5, .int 1), (0, .ref (ad 30)), (1, .int a0), (2, .int a1)] := by rw [e9]; exact hl
                exact ih5 ls (lv_sub hl [0, 1, 3, 4, 5] rfl) (trivial)
    · skip
      refine lv_if_eq (tgt := 111) hx hb dX5_rate_25 (by decide) (fun _ => ?_) (fun c_25 => absurd (by decide) c_25)
      refine lv_iinc (v := nI (k5 + 1)) (lv' := [(4, .int (nI (k5 + 1))), (3, .int (ck_bi (ck_best V a0 a1 k5))), (0, .ref (ad 30)), (1, .int a0), (2, .int a1)]) hx hb dX5_rate_111 hl (k := 0) rfl (nI_1 k5) (by decide) rfl (fun ls hl => ?_)
      refine lv_goto (tgt := 5) hx hb dX5_rate_114 (by decide) ?_
      have e9 : ck_best V a0 a1 (k5 + 1) = _ := ck_best_no2 (fun z => h_22 z.2.1)
      have hl : lv_has ls 6 [(4, .int (nI (k5 + 1))), (3, .int (ck_bi (ck_best V a0 a1 (k5 + 1)))), (0, .ref (ad 30)), (1, .int a0), (2, .int a1)] := by rw [e9]; exact hl
      exact ih5 ls (lv_sub hl [0, 1, 2, 3, 4] rfl) (trivial)
theorem ck_up60 (x : Int32) : ck_up x 60 = (x + 59) / 60 := by
  unfold ck_up; rw [if_neg (by decide)]
  rw [Int32.sub_eq_add_neg, Int32.add_assoc]; rfl
theorem ck_up1 {a u : Int32} (h : 1 ≤ u) : ck_up a u = (a + u - 1) / u := by unfold ck_up; rw [if_neg (Int32.not_lt.mpr h)]
theorem ck_st0 {u : Int32} (h : 1 ≤ u) : ¬ u = 0 := by intro e; subst e; exact absurd h (by decide)
set_option maxHeartbeats 4000000 in
set_option maxRecDepth 100000 in
theorem ct_X5_chargeOf (l : Launch) (G : ck_G) (H : Heap) (ad : Nat → Nat) (N : Nat → Prop) (F : Nat → va_E) (hW : ck_W G ad N F H) (V : Nat → Nat → Int32) (L : Nat → Nat → Int64) (nc nr : Nat) (t : Int32) (hM : ck_M G ad V L nc nr t N F) (k : Nat) (hk : k < nc) (hp7 : ∀ k, k < nr → 0 ≤ (V 7 k).toInt) (h0 : ck_rg 0 (V 0 k) 99999999) (hst : ∀ k, k < nr → 1 ≤ V 10 k) : Met l yX5_chargeOf wsX5_chargeOf ({ frames := 2, cells := 0, slots := 0, locals := 47 }) (ck_P G H [.ref (ad 30), .int (nI k)]) (vp_Si (fun r => r = ck_now V nr k)) 0 0 (fun _ => False) := by
  refine Met.ofW (cc := cX5_chargeOf) (maxL := 5) (ret := (some .int)) (by decide) rfl ?_
  intro p e s m args below meth c s₁ B hml hv
  obtain ⟨rfl, hH, hKK⟩ := hv
  subst hH
  have hx := B.exec
  have hb := B.bytes
  have hr := B.returns
  have hts := atoms_spec (ws := wsX5_chargeOf) B.pre
  have hown : s.vm.findClass RX5 = some m.cls := findClass_of_methodNamed B.named
  have hlocks := B.notSynchronized
  have hKK0 := hKK
  have hK := hKK.1.1
  have hinX5 : ∀ w ∈ u_ws RX5 TX5 26, w ∈ wsX5_chargeOf := by decide +kernel
  have hl := lv_entry ([.ref (ad 30), .int (nI k)]) (n := 5) (Nat.le_of_ble_eq_true rfl)
  rw [lg_entry_eq]
  generalize (lg_sl ([.ref (ad 30), .int (nI k)]) ++ List.replicate (5 - (lg_sl ([.ref (ad 30), .int (nI k)])).length) Slot.unset).toArray = ls at hl ⊢
  have hl : lv_has ls 5 [(0, .ref (ad 30)), (1, .int (nI k))] := hl
  refine lv_aload_n hx hb dX5_chargeOf_0 rfl (lv_at hl 0 rfl) ?_
  refine lv_aload_n hx hb dX5_chargeOf_1 rfl (lv_at hl 0 rfl) ?_
  refine ck_get (v := .ref (ad 36)) hx hb hts hinX5 hown hK hW (hM.n 30 (by decide) (by decide)) hM.f30 rfl 7 (by decide) (hts _ (List.mem_of_getElem? (i := 1) rfl)) rfl rfl dX5_chargeOf_2 ?_
  refine lv_iload_n hx hb dX5_chargeOf_5 rfl (lv_at hl 1 rfl) ?_
  refine ck_iald hx hb hK hW (hM.n 36 (by decide) (by decide)) hM.f36 k (rfl) (by have := hM.nc; have := hM.nr; omega) (by decide) dX5_chargeOf_6 ?_
  refine lv_aload_n hx hb dX5_chargeOf_7 rfl (lv_at hl 0 rfl) ?_
  refine ck_get (v := .ref (ad 37)) hx hb hts hinX5 hown hK hW (hM.n 30 (by decide) (by decide)) hM.f30 rfl 8 (by decide) (hts _ (List.mem_of_getElem? (i := 2) rfl)) rfl rfl dX5_chargeOf_8 ?_
  refine lv_iload_n hx hb dX5_chargeOf_11 rfl (lv_at hl 1 rfl) ?_
  refine ck_iald hx hb hK hW (hM.n 37 (by decide) (by decide)) hM.f37 k (rfl) (by have := hM.nc; have := hM.nr; omega) (by decide) dX5_chargeOf_12 ?_
  refine lv_sipush (v := 1000) hx hb dX5_chargeOf_13 (by decide) ?_
  refine lv_idiv hx hb dX5_chargeOf_16 (by decide) ?_
  refine ck_cVi (As := [.int (((V 0)) k), .int (((((V 1)) k)) / 1000)]) (rest := []) ⟨hx, hb, hml, hown, hts⟩ hKK (ct_X5_rate l G s.heap ad N F hW V L nc nr t hM ((((V 0)) k)) ((((((V 1)) k)) / 1000)) hp7 h0) (cwV 2 hts gX5_chargeOf_X5_rate rfl rfl rfl (by decide +kernel) ⟨Nat.le_of_ble_eq_true rfl, Nat.le_of_ble_eq_true rfl⟩) (ck_recv hK hW (hM.n 30 (by decide) (by decide)) hM.f30 rfl) rfl hl rfl (Nat.le_of_ble_eq_true rfl) dX5_chargeOf_17 ⟨Nat.le_of_ble_eq_true rfl, Nat.le_of_ble_eq_true rfl⟩ (fun r_17 h_17 => ?_)
  subst h_17
  obtain ⟨ob, hob⟩ : ∃ ob, ck_best V (V 0 k) (V 1 k / 1000) nr = ob := ⟨_, rfl⟩
  rw [hob]
  rcases ob with _ | b
  · skip
    refine lv_istore_n (lv' := [(2, .int (-1)), (0, .ref (ad 30)), (1, .int (nI k))]) hx hb dX5_chargeOf_20 rfl hl (by decide) rfl (fun ls hl => ?_)
    refine lv_iload_n hx hb dX5_chargeOf_21 rfl (lv_at hl 0 rfl) ?_
    refine lv_iconst (v := (-1)) hx hb dX5_chargeOf_22 (by decide) ?_
    refine lv_icmp_ne (tgt := 28) hx hb dX5_chargeOf_23 (by decide) (fun c_23 => absurd (by decide) c_23) (fun _ => ?_)
    refine lv_iconst (v := (-1)) hx hb dX5_chargeOf_26 (by decide) ?_
    exact W.iret (v := (-1)) hx hb hr (fun t ht hW9 => ⟨_, rfl, (by simp only [ck_now, hob]), ht⟩) (fun _ h => nomatch h) dX5_chargeOf_27
  · skip
    have hbn : b < nr := ck_best_lt hob
    refine lv_istore_n (lv' := [(2, .int (nI b)), (0, .ref (ad 30)), (1, .int (nI k))]) hx hb dX5_chargeOf_20 rfl hl (by decide) rfl (fun ls hl => ?_)
    refine lv_iload_n hx hb dX5_chargeOf_21 rfl (lv_at hl 0 rfl) ?_
    refine lv_iconst (v := (-1)) hx hb dX5_chargeOf_22 (by decide) ?_
    refine lv_icmp_ne (tgt := 28) hx hb dX5_chargeOf_23 (by decide) (fun _ => ?_) (fun c_23 => absurd c_23 (ck_m1 (by have := hM.nr; omega)))
    refine lv_aload_n hx hb dX5_chargeOf_28 rfl (lv_at hl 1 rfl) ?_
    refine ck_get (v := .ref (ad 39)) hx hb hts hinX5 hown hK hW (hM.n 30 (by decide) (by decide)) hM.f30 rfl 10 (by decide) (hts _ (List.mem_of_getElem? (i := 3) rfl)) rfl rfl dX5_chargeOf_29 ?_
    refine lv_iload_n hx hb dX5_chargeOf_32 rfl (lv_at hl 2 rfl) ?_
    refine ck_iald hx hb hK hW (hM.n 39 (by decide) (by decide)) hM.f39 k (rfl) (by have := hM.nc; have := hM.nr; omega) (by decide) dX5_chargeOf_33 ?_
    refine lv_aload_n hx hb dX5_chargeOf_34 rfl (lv_at hl 1 rfl) ?_
    refine ck_get (v := .ref (ad 46)) hx hb hts hinX5 hown hK hW (hM.n 30 (by decide) (by decide)) hM.f30 rfl 19 (by decide) (hts _ (List.mem_of_getElem? (i := 4) rfl)) rfl rfl dX5_chargeOf_35 ?_
    refine lv_iload_n hx hb dX5_chargeOf_38 rfl (lv_at hl 0 rfl) ?_
    refine ck_iald hx hb hK hW (hM.n 46 (by decide) (by decide)) hM.f46 b (rfl) (by have := hM.nc; have := hM.nr; omega) (by decide) dX5_chargeOf_39 ?_
    refine lv_iadd hx hb dX5_chargeOf_40 ?_
    refine lv_iconst (v := 1) hx hb dX5_chargeOf_41 (by decide) ?_
    refine lv_isub hx hb dX5_chargeOf_42 ?_
    refine lv_aload_n hx hb dX5_chargeOf_43 rfl (lv_at hl 1 rfl) ?_
    refine ck_get (v := .ref (ad 46)) hx hb hts hinX5 hown hK hW (hM.n 30 (by decide) (by decide)) hM.f30 rfl 19 (by decide) (hts _ (List.mem_of_getElem? (i := 4) rfl)) rfl rfl dX5_chargeOf_44 ?_
    refine lv_iload_n hx hb dX5_chargeOf_47 rfl (lv_at hl 0 rfl) ?_
    refine ck_iald hx hb hK hW (hM.n 46 (by decide) (by decide)) hM.f46 b (rfl) (by have := hM.nc; have := hM.nr; omega) (by decide) dX5_chargeOf_48 ?_
    refine lv_idiv hx hb dX5_chargeOf_49 (ck_st0 (hst b hbn)) ?_
    refine lv_aload_n hx hb dX5_chargeOf_50 rfl (lv_at hl 1 rfl) ?_
    refine ck_get (v := .ref (ad 46)) hx hb hts hinX5 hown hK hW (hM.n 30 (by decide) (by decide)) hM.f30 rfl 19 (by decide) (hts _ (List.mem_of_getElem? (i := 4) rfl)) rfl rfl dX5_chargeOf_51 ?_
    refine lv_iload_n hx hb dX5_chargeOf_54 rfl (lv_at hl 0 rfl) ?_
    refine ck_iald hx hb hK hW (hM.n 46 (by decide) (by decide)) hM.f46 b (rfl) (by have := hM.nc; have := hM.nr; omega) (by decide) dX5_chargeOf_55 ?_
    refine lv_imul hx hb dX5_chargeOf_56 ?_
    refine lv_istore_n (lv' := [(3, .int (((((((((((V 4)) k)) + ((((V 10)) b)))) - 1)) / ((((V 10)) b)))) * ((((V 10)) b)))), (2, .int (nI b)), (0, .ref (ad 30)), (1, .int (nI k))]) hx hb dX5_chargeOf_57 rfl hl (by decide) rfl (fun ls hl => ?_)
    refine lv_iload_n hx hb dX5_chargeOf_58 rfl (lv_at hl 0 rfl) ?_
    refine lv_aload_n hx hb dX5_chargeOf_59 rfl (lv_at hl 2 rfl) ?_
    refine ck_get (v := .ref (ad 47)) hx hb hts hinX5 hown hK hW (hM.n 30 (by decide) (by decide)) hM.f30 rfl 20 (by decide) (hts _ (List.mem_of_getElem? (i := 5) rfl)) rfl rfl dX5_chargeOf_60 ?_
    refine lv_iload_n hx hb dX5_chargeOf_63 rfl (lv_at hl 1 rfl) ?_
    refine ck_iald hx hb hK hW (hM.n 47 (by decide) (by decide)) hM.f47 b (rfl) (by have := hM.nc; have := hM.nr; omega) (by decide) dX5_chargeOf_64 ?_
    refine lv_icmp_ge (tgt := 77) hx hb dX5_chargeOf_65 (by decide) (fun c_65 => ?_) (fun c_65 => ?_)
    · skip
      refine lv_iload_n hx hb dX5_chargeOf_77 rfl (lv_at hl 0 rfl) ?_
      refine lv_istore (lv' := [(4, .int (((((((((((V 4)) k)) + ((((V 10)) b)))) - 1)) / ((((V 10)) b)))) * ((((V 10)) b)))), (3, .int (((((((((((V 4)) k)) + ((((V 10)) b)))) - 1)) / ((((V 10)) b)))) * ((((V 10)) b)))), (2, .int (nI b)), (0, .ref (ad 30)), (1, .int (nI k))]) hx hb dX5_chargeOf_78 hl (by decide) rfl (fun ls hl => ?_)
      refine lv_aload_n hx hb dX5_chargeOf_80 rfl (lv_at hl 3 rfl) ?_
      refine ck_get (v := .ref (ad 48)) hx hb hts hinX5 hown hK hW (hM.n 30 (by decide) (by decide)) hM.f30 rfl 21 (by decide) (hts _ (List.mem_of_getElem? (i := 6) rfl)) rfl rfl dX5_chargeOf_81 ?_
      refine lv_iload_n hx hb dX5_chargeOf_84 rfl (lv_at hl 2 rfl) ?_
      refine ck_iald hx hb hK hW (hM.n 48 (by decide) (by decide)) hM.f48 b (rfl) (by have := hM.nc; have := hM.nr; omega) (by decide) dX5_chargeOf_85 ?_
      refine lv_aload_n hx hb dX5_chargeOf_86 rfl (lv_at hl 3 rfl) ?_
      refine ck_get (v := .ref (ad 45)) hx hb hts hinX5 hown hK hW (hM.n 30 (by decide) (by decide)) hM.f30 rfl 18 (by decide) (hts _ (List.mem_of_getElem? (i := 7) rfl)) rfl rfl dX5_chargeOf_87 ?_
      refine lv_iload_n hx hb dX5_chargeOf_90 rfl (lv_at hl 2 rfl) ?_
      refine ck_iald hx hb hK hW (hM.n 45 (by decide) (by decide)) hM.f45 b (rfl) (by have := hM.nc; have := hM.nr; omega) (by decide) dX5_chargeOf_91 ?_
      refine lv_iload hx hb dX5_chargeOf_92 (lv_at hl 0 rfl) ?_
      refine lv_imul hx hb dX5_chargeOf_94 ?_
      refine lv_bipush (v := 59) hx hb dX5_chargeOf_95 (by decide) ?_
      refine lv_iadd hx hb dX5_chargeOf_97 ?_
      refine lv_bipush (v := 60) hx hb dX5_chargeOf_98 (by decide) ?_
      refine lv_idiv hx hb dX5_chargeOf_100 (by decide) ?_
      refine lv_iadd hx hb dX5_chargeOf_101 ?_
      exact W.iret (v := (((((V 12)) b)) + ((((((((((V 9)) b)) * ((((((((((((V 4)) k)) + ((((V 10)) b)))) - 1)) / ((((V 10)) b)))) * ((((V 10)) b)))))) + 59)) / 60)))) hx hb hr (fun t ht hW9 => ⟨_, rfl, (by simp only [ck_now, hob, ck_chg, ck_up60, ck_up1 (hst b hbn), ck_max]; rw [if_neg (Int32.not_lt.mpr c_65)]), ht⟩) (fun _ h => nomatch h) dX5_chargeOf_102
    · skip
      refine lv_aload_n hx hb dX5_chargeOf_68 rfl (lv_at hl 2 rfl) ?_
      refine ck_get (v := .ref (ad 47)) hx hb hts hinX5 hown hK hW (hM.n 30 (by decide) (by decide)) hM.f30 rfl 20 (by decide) (hts _ (List.mem_of_getElem? (i := 5) rfl)) rfl rfl dX5_chargeOf_69 ?_
      refine lv_iload_n hx hb dX5_chargeOf_72 rfl (lv_at hl 1 rfl) ?_
      refine ck_iald hx hb hK hW (hM.n 47 (by decide) (by decide)) hM.f47 b (rfl) (by have := hM.nc; have := hM.nr; omega) (by decide) dX5_chargeOf_73 ?_
      refine lv_goto (tgt := 78) hx hb dX5_chargeOf_74 (by decide) ?_
      refine lv_istore (lv' := [(4, .int (((V 11)) b)), (3, .int (((((((((((V 4)) k)) + ((((V 10)) b)))) - 1)) / ((((V 10)) b)))) * ((((V 10)) b)))), (2, .int (nI b)), (0, .ref (ad 30)), (1, .int (nI k))]) hx hb dX5_chargeOf_78 hl (by decide) rfl (fun ls hl => ?_)
      refine lv_aload_n hx hb dX5_chargeOf_80 rfl (lv_at hl 3 rfl) ?_
      refine ck_get (v := .ref (ad 48)) hx hb hts hinX5 hown hK hW (hM.n 30 (by decide) (by decide)) hM.f30 rfl 21 (by decide) (hts _ (List.mem_of_getElem? (i := 6) rfl)) rfl rfl dX5_chargeOf_81 ?_
      refine lv_iload_n hx hb dX5_chargeOf_84 rfl (lv_at hl 2 rfl) ?_
      refine ck_iald hx hb hK hW (hM.n 48 (by decide) (by decide)) hM.f48 b (rfl) (by have := hM.nc; have := hM.nr; omega) (by decide) dX5_chargeOf_85 ?_
      refine lv_aload_n hx hb dX5_chargeOf_86 rfl (lv_at hl 3 rfl) ?_
      refine ck_get (v := .ref (ad 45)) hx hb hts hinX5 hown hK hW (hM.n 30 (by decide) (by decide)) hM.f30 rfl 18 (by decide) (hts _ (List.mem_of_getElem? (i := 7) rfl)) rfl rfl dX5_chargeOf_87 ?_
      refine lv_iload_n hx hb dX5_chargeOf_90 rfl (lv_at hl 2 rfl) ?_
      refine ck_iald hx hb hK hW (hM.n 45 (by decide) (by decide)) hM.f45 b (rfl) (by have := hM.nc; have := hM.nr; omega) (by decide) dX5_chargeOf_91 ?_
      refine lv_iload hx hb dX5_chargeOf_92 (lv_at hl 0 rfl) ?_
      refine lv_imul hx hb dX5_chargeOf_94 ?_
      refine lv_bipush (v := 59) hx hb dX5_chargeOf_95 (by decide) ?_
      refine lv_iadd hx hb dX5_chargeOf_97 ?_
      refine lv_bipush (v := 60) hx hb dX5_chargeOf_98 (by decide) ?_
      refine lv_idiv hx hb dX5_chargeOf_100 (by decide) ?_
      refine lv_iadd hx hb dX5_chargeOf_101 ?_
      exact W.iret (v := (((((V 12)) b)) + ((((((((((V 9)) b)) * ((((V 11)) b)))) + 59)) / 60)))) hx hb hr (fun t ht hW9 => ⟨_, rfl, (by simp only [ck_now, hob, ck_chg, ck_up60, ck_up1 (hst b hbn), ck_max]; rw [if_pos (Int32.not_le.mp c_65)]), ht⟩) (fun _ h => nomatch h) dX5_chargeOf_102
set_option maxHeartbeats 4000000 in
set_option maxRecDepth 100000 in
theorem ct_X5_differs (l : Launch) (G : ck_G) (H : Heap) (ad : Nat → Nat) (N : Nat → Prop) (F : Nat → va_E) (hW : ck_W G ad N F H) (V : Nat → Nat → Int32) (L : Nat → Nat → Int64) (nc nr : Nat) (t : Int32) (hM : ck_M G ad V L nc nr t N F) (a0 : Int32) (h0 : 0 ≤ a0.toInt) (hn0 : ∀ k, k < nc → ck_rg 0 (V 0 k) 99999999) : Met l yX5_differs wsX5_differs ({ frames := 1, cells := 0, slots := 0, locals := 22 }) (ck_P G H [.ref (ad 30), .int a0]) (vp_Si (fun r => r = ck_df V a0 nc)) 0 0 (fun _ => False) := by
  refine Met.ofW (cc := cX5_differs) (maxL := 4) (ret := (some .int)) (by decide) rfl ?_
  intro p e s m args below meth c s₁ B hml hv
  obtain ⟨rfl, hH, hKK⟩ := hv
  subst hH
  have hx := B.exec
  have hb := B.bytes
  have hr := B.returns
  have hts := atoms_spec (ws := wsX5_differs) B.pre
  have hown : s.vm.findClass RX5 = some m.cls := findClass_of_methodNamed B.named
  have hlocks := B.notSynchronized
  have hKK0 := hKK
  have hK := hKK.1.1
  have hinX5 : ∀ w ∈ u_ws RX5 TX5 26, w ∈ wsX5_differs := by decide +kernel
  have hl := lv_entry ([.ref (ad 30), .int a0]) (n := 4) (Nat.le_of_ble_eq_true rfl)
  rw [lg_entry_eq]
  generalize (lg_sl ([.ref (ad 30), .int a0]) ++ List.replicate (4 - (lg_sl ([.ref (ad 30), .int a0])).length) Slot.unset).toArray = ls at hl ⊢
  have hl : lv_has ls 4 [(0, .ref (ad 30)), (1, .int a0)] := hl
  refine lv_iconst (v := 0) hx hb dX5_differs_0 (by decide) ?_
  refine lv_istore_n (lv' := [(2, .int 0), (0, .ref (ad 30)), (1, .int a0)]) hx hb dX5_differs_1 rfl hl (by decide) rfl (fun ls hl => ?_)
  refine lv_iconst (v := 0) hx hb dX5_differs_2 (by decide) ?_
  refine lv_istore_n (lv' := [(3, .int 0), (2, .int 0), (0, .ref (ad 30)), (1, .int a0)]) hx hb dX5_differs_3 rfl hl (by decide) rfl (fun ls hl => ?_)
  refine ck_loop (P := fun ls => W p l e _ s m _ below meth c _ _ _ _ _ (F0 m _ ls _)) nc (fun k => [(3, .int (nI k)), (2, .int (ck_df V a0 k)), (0, .ref (ad 30)), (1, .int a0)]) (fun k => True) (lv_sub hl [0, 1, 2, 3] rfl) (trivial) ?_ ?_
  · intro ls hl hI4
    have hl : lv_has ls 4 [(3, .int (nI nc)), (2, .int (ck_df V a0 nc)), (0, .ref (ad 30)), (1, .int a0)] := hl
    refine lv_iload_n hx hb dX5_differs_4 rfl (lv_at hl 0 rfl) ?_
    refine lv_aload_n hx hb dX5_differs_5 rfl (lv_at hl 2 rfl) ?_
    refine ck_get (v := .int (nI nc)) hx hb hts hinX5 hown hK hW (hM.n 30 (by decide) (by decide)) hM.f30 rfl 6 (by decide) (hts _ (List.mem_of_getElem? (i := 1) rfl)) rfl rfl dX5_differs_6 ?_
    refine lv_icmp_ge (tgt := 50) hx hb dX5_differs_9 (by decide) (fun _ => ?_) (fun c_9 => absurd (Int32.le_refl _) c_9)
    refine lv_iload_n hx hb dX5_differs_50 rfl (lv_at hl 1 rfl) ?_
    exact W.iret (v := (ck_df V a0 nc)) hx hb hr (fun t ht hW9 => ⟨_, rfl, rfl, ht⟩) (fun _ h => nomatch h) dX5_differs_51
  · intro k4 hk4 hI4 ih4 ls hl
    have hl : lv_has ls 4 [(3, .int (nI k4)), (2, .int (ck_df V a0 k4)), (0, .ref (ad 30)), (1, .int a0)] := hl
    refine lv_iload_n hx hb dX5_differs_4 rfl (lv_at hl 0 rfl) ?_
    refine lv_aload_n hx hb dX5_differs_5 rfl (lv_at hl 2 rfl) ?_
    refine ck_get (v := .int (nI nc)) hx hb hts hinX5 hown hK hW (hM.n 30 (by decide) (by decide)) hM.f30 rfl 6 (by decide) (hts _ (List.mem_of_getElem? (i := 1) rfl)) rfl rfl dX5_differs_6 ?_
    refine lv_icmp_ge (tgt := 50) hx hb dX5_differs_9 (by decide) (fun c_9 => absurd c_9 (nI_ge hk4 (by have := hM.nc; omega))) (fun _ => ?_)
    refine lv_iload_n hx hb dX5_differs_12 rfl (lv_at hl 1 rfl) ?_
    refine lv_iload_n hx hb dX5_differs_13 rfl (lv_at hl 3 rfl) ?_
    refine lv_aload_n hx hb dX5_differs_14 rfl (lv_at hl 2 rfl) ?_
    refine ck_get (v := .ref (ad 36)) hx hb hts hinX5 hown hK hW (hM.n 30 (by decide) (by decide)) hM.f30 rfl 7 (by decide) (hts _ (List.mem_of_getElem? (i := 2) rfl)) rfl rfl dX5_differs_15 ?_
    refine lv_iload_n hx hb dX5_differs_18 rfl (lv_at hl 0 rfl) ?_
    refine ck_iald hx hb hK hW (hM.n 36 (by decide) (by decide)) hM.f36 k4 (rfl) (by have := hM.nc; omega) (by decide) dX5_differs_19 ?_
    refine ck_cSi (As := [.int a0, .int (((V 0)) k4)]) (rest := [.int (ck_df V a0 k4)]) ⟨hx, hb, hml, hown, hts⟩ hKK (ct_X5_fits l G s.heap a0 ((((V 0)) k4)) h0 (hn0 k4 hk4).1 (hn0 k4 hk4).2) (va_cwS 2 hts gX5_differs_X5_fits rfl rfl rfl (by decide +kernel) ⟨Nat.le_of_ble_eq_true rfl, Nat.le_of_ble_eq_true rfl⟩) rfl hl rfl (Nat.le_of_ble_eq_true rfl) dX5_differs_20 ⟨Nat.le_of_ble_eq_true rfl, Nat.le_of_ble_eq_true rfl⟩ (fun r_20 h_20 => ?_)
    rcases h_20 with ⟨h_20, rfl⟩ | ⟨h_20, rfl⟩
    · skip
      refine lv_if_eq (tgt := 41) hx hb dX5_differs_23 (by decide) (fun c_23 => absurd c_23 (by decide)) (fun _ => ?_)
      refine lv_aload_n hx hb dX5_differs_26 rfl (lv_at hl 2 rfl) ?_
      refine ck_get (v := .ref (ad 42)) hx hb hts hinX5 hown hK hW (hM.n 30 (by decide) (by decide)) hM.f30 rfl 13 (by decide) (hts _ (List.mem_of_getElem? (i := 3) rfl)) rfl rfl dX5_differs_27 ?_
      refine lv_iload_n hx hb dX5_differs_30 rfl (lv_at hl 0 rfl) ?_
      refine ck_iald hx hb hK hW (hM.n 42 (by decide) (by decide)) hM.f42 k4 (rfl) (by have := hM.nc; omega) (by decide) dX5_differs_31 ?_
      refine lv_aload_n hx hb dX5_differs_32 rfl (lv_at hl 2 rfl) ?_
      refine lv_iload_n hx hb dX5_differs_33 rfl (lv_at hl 0 rfl) ?_
      refine ck_cVi (As := [.int (nI k4)]) (rest := [.int (((V 6)) k4), .int (ck_df V a0 k4)]) ⟨hx, hb, hml, hown, hts⟩ hKK (ct_X5_bookedOf l G s.heap ad N F hW V L nc nr t hM k4 (by have := hM.nc; omega)) (cwV 1 hts gX5_differs_X5_bookedOf rfl rfl rfl (by decide +kernel) ⟨Nat.le_of_ble_eq_true rfl, Nat.le_of_ble_eq_true rfl⟩) (ck_recv hK hW (hM.n 30 (by decide) (by decide)) hM.f30 rfl) rfl hl rfl (Nat.le_of_ble_eq_true rfl) dX5_differs_34 ⟨Nat.le_of_ble_eq_true rfl, Nat.le_of_ble_eq_true rfl⟩ (fun r_34 h_34 => ?_)
      subst h_34
      refine lv_isub hx hb dX5_differs_37 ?_
      refine lv_goto (tgt := 42) hx hb dX5_differs_38 (by decide) ?_
      refine lv_iadd hx hb dX5_differs_42 ?_
      refine lv_istore_n (lv' := [(2, .int (((ck_df V a0 k4)) + ((((((V 6)) k4)) - ((ck_bk (V 5 k4))))))), (3, .int (nI k4)), (0, .ref (ad 30)), (1, .int a0)]) hx hb dX5_differs_43 rfl hl (by decide) rfl (fun ls hl => ?_)
      refine lv_iinc (v := nI (k4 + 1)) (lv' := [(3, .int (nI (k4 + 1))), (2, .int (((ck_df V a0 k4)) + ((((((V 6)) k4)) - ((ck_bk (V 5 k4))))))), (0, .ref (ad 30)), (1, .int a0)]) hx hb dX5_differs_44 hl (k := 1) rfl (nI_1 k4) (by decide) rfl (fun ls hl => ?_)
      refine lv_goto (tgt := 4) hx hb dX5_differs_47 (by decide) ?_
      have e9 : ck_df V a0 (k4 + 1) = ck_df V a0 k4 + (V 6 k4 - ck_bk (V 5 k4)) := by simp only [ck_df]; rw [if_pos h_20]
      have hl : lv_has ls 4 [(3, .int (nI (k4 + 1))), (2, .int (ck_df V a0 (k4 + 1))), (0, .ref (ad 30)), (1, .int a0)] := by rw [e9]; exact hl
      exact ih4 ls (lv_sub hl [0, 1, 2, 3] rfl) (trivial)
    · skip
      refine lv_if_eq (tgt := 41) hx hb dX5_differs_23 (by decide) (fun _ => ?_) (fun c_23 => absurd (by decide) c_23)
      refine lv_iconst (v := 0) hx hb dX5_differs_41 (by decide) ?_
      refine lv_iadd hx hb dX5_differs_42 ?_
      refine lv_istore_n (lv' := [(2, .int (((ck_df V a0 k4)) + 0)), (3, .int (nI k4)), (0, .ref (ad 30)), (1, .int a0)]) hx hb dX5_differs_43 rfl hl (by decide) rfl (fun ls hl => ?_)
      refine lv_iinc (v := nI (k4 + 1)) (lv' := [(3, .int (nI (k4 + 1))), (2, .int (((ck_df V a0 k4)) + 0)), (0, .ref (ad 30)), (1, .int a0)]) hx hb dX5_differs_44 hl (k := 1) rfl (nI_1 k4) (by decide) rfl (fun ls hl => ?_)
      refine lv_goto (tgt := 4) hx hb dX5_differs_47 (by decide) ?_
      have e9 : ck_df V a0 (k4 + 1) = ck_df V a0 k4 + 0 := by simp only [ck_df]; rw [if_neg h_20, Int32.add_zero]
      have hl : lv_has ls 4 [(3, .int (nI (k4 + 1))), (2, .int (ck_df V a0 (k4 + 1))), (0, .ref (ad 30)), (1, .int a0)] := by rw [e9]; exact hl
      exact ih4 ls (lv_sub hl [0, 1, 2, 3] rfl) (trivial)
def ck_ofc (g : Nat → Int32) (k : Nat) : Option Nat → Bool
  | none => true
  | some b => decide (g b < g k)
def ck_of (g : Nat → Int32) (x : Int32) : Nat → Option Nat
  | 0 => none
  | k + 1 => if ck_fit (g k) x = true ∧ ck_ofc g k (ck_of g x k) = true then some k else ck_of g x k
theorem ck_of_lt {g : Nat → Int32} {x : Int32} : ∀ {n b : Nat}, ck_of g x n = some b → b < n
  | 0, b, h => by simp [ck_of] at h
  | n + 1, b, h => by
    by_cases c : ck_fit (g n) x = true ∧ ck_ofc g n (ck_of g x n) = true
    · simp only [ck_of, if_pos c] at h; cases h; omega
    · simp only [ck_of, if_neg c] at h; have := ck_of_lt h; omega
theorem ck_of_yes {g : Nat → Int32} {x : Int32} {k : Nat} (h : ck_fit (g k) x = true) (h2 : ck_ofc g k (ck_of g x k) = true) : ck_of g x (k + 1) = some k := by simp only [ck_of]; rw [if_pos ⟨h, h2⟩]
theorem ck_of_no {g : Nat → Int32} {x : Int32} {k : Nat} (h : ¬ (ck_fit (g k) x = true ∧ ck_ofc g k (ck_of g x k) = true)) : ck_of g x (k + 1) = ck_of g x k := by simp only [ck_of]; rw [if_neg h]
/-- the reference's price of carrier i for x, of m offers -/
def ck_mp (V : Nat → Nat → Int32) (x : Int32) (i m : Nat) : Int32 := match ck_of (fun k => V 29 (10 * i + k)) x m with
  | none => -1
  | some b => V 30 (10 * i + b)
def ck_bo (i : Nat) : Option Nat → Int32
  | none => -1
  | some b => nI (10 * i + b)
theorem ck_10 (i : Nat) : (10 : Int32) * nI i = nI (10 * i) := pk_mul 10 i
set_option maxHeartbeats 4000000 in
set_option maxRecDepth 100000 in
theorem ct_X5_offerOf (l : Launch) (G : ck_G) (H : Heap) (ad : Nat → Nat) (N : Nat → Prop) (F : Nat → va_E) (hW : ck_W G ad N F H) (V : Nat → Nat → Int32) (L : Nat → Nat → Int64) (nc nr : Nat) (t : Int32) (hM : ck_M G ad V L nc nr t N F) (i : Nat) (hi : i < 4) (m0 : Nat) (hm : V 28 i = nI m0) (hm10 : m0 ≤ 10) (a1 : Int32) (hp29 : ∀ k, k < m0 → 0 ≤ (V 29 (10 * i + k)).toInt) (h0 : ck_rg 0 a1 99999999) : Met l yX5_offerOf wsX5_offerOf ({ frames := 1, cells := 0, slots := 0, locals := 22 }) (ck_P G H [.ref (ad 30), .int (nI i), .int a1]) (vp_Si (fun r => r = ck_mp V a1 i m0)) 0 0 (fun _ => False) := by
  refine Met.ofW (cc := cX5_offerOf) (maxL := 5) (ret := (some .int)) (by decide) rfl ?_
  intro p e s m args below meth c s₁ B hml hv
  obtain ⟨rfl, hH, hKK⟩ := hv
  subst hH
  have hx := B.exec
  have hb := B.bytes
  have hr := B.returns
  have hts := atoms_spec (ws := wsX5_offerOf) B.pre
  have hown : s.vm.findClass RX5 = some m.cls := findClass_of_methodNamed B.named
  have hlocks := B.notSynchronized
  have hKK0 := hKK
  have hK := hKK.1.1
  have hinX5 : ∀ w ∈ u_ws RX5 TX5 26, w ∈ wsX5_offerOf := by decide +kernel
  have hl := lv_entry ([.ref (ad 30), .int (nI i), .int a1]) (n := 5) (Nat.le_of_ble_eq_true rfl)
  rw [lg_entry_eq]
  generalize (lg_sl ([.ref (ad 30), .int (nI i), .int a1]) ++ List.replicate (5 - (lg_sl ([.ref (ad 30), .int (nI i), .int a1])).length) Slot.unset).toArray = ls at hl ⊢
  have hl : lv_has ls 5 [(0, .ref (ad 30)), (1, .int (nI i)), (2, .int a1)] := hl
  refine lv_iconst (v := (-1)) hx hb dX5_offerOf_0 (by decide) ?_
  refine lv_istore_n (lv' := [(3, .int (-1)), (0, .ref (ad 30)), (1, .int (nI i)), (2, .int a1)]) hx hb dX5_offerOf_1 rfl hl (by decide) rfl (fun ls hl => ?_)
  refine lv_bipush (v := 10) hx hb dX5_offerOf_2 (by decide) ?_
  refine lv_iload_n hx hb dX5_offerOf_4 rfl (lv_at hl 2 rfl) ?_
  refine lv_imul hx hb dX5_offerOf_5 ?_
  rw [ck_10]
  refine lv_istore (lv' := [(4, .int (nI (10 * i))), (3, .int (-1)), (0, .ref (ad 30)), (1, .int (nI i)), (2, .int a1)]) hx hb dX5_offerOf_6 hl (by decide) rfl (fun ls hl => ?_)
  refine ck_loop (P := fun ls => W p l e _ s m _ below meth c _ _ _ _ _ (F0 m _ ls _)) m0 (fun k => [(4, .int (nI (10 * i + k))), (3, .int (ck_bo i (ck_of (fun k => V 29 (10 * i + k)) a1 k))), (0, .ref (ad 30)), (1, .int (nI i)), (2, .int a1)]) (fun k => True) (lv_sub hl [0, 1, 2, 3, 4] rfl) (trivial) ?_ ?_
  · intro ls hl hI8
    have hl : lv_has ls 5 [(4, .int (nI (10 * i + m0))), (3, .int (ck_bo i (ck_of (fun k => V 29 (10 * i + k)) a1 m0))), (0, .ref (ad 30)), (1, .int (nI i)), (2, .int a1)] := hl
    refine lv_iload hx hb dX5_offerOf_8 (lv_at hl 0 rfl) ?_
    refine lv_bipush (v := 10) hx hb dX5_offerOf_10 (by decide) ?_
    refine lv_iload_n hx hb dX5_offerOf_12 rfl (lv_at hl 3 rfl) ?_
    refine lv_imul hx hb dX5_offerOf_13 ?_
    refine lv_aload_n hx hb dX5_offerOf_14 rfl (lv_at hl 2 rfl) ?_
    refine ck_get (v := .ref (ad 49)) hx hb hts hinX5 hown hK hW (hM.n 30 (by decide) (by decide)) hM.f30 rfl 22 (by decide) (hts _ (List.mem_of_getElem? (i := 1) rfl)) rfl rfl dX5_offerOf_15 ?_
    refine lv_iload_n hx hb dX5_offerOf_18 rfl (lv_at hl 3 rfl) ?_
    refine ck_iald hx hb hK hW (hM.n 49 (by decide) (by decide)) hM.f49 i (rfl) (by omega) (by decide) dX5_offerOf_19 ?_
    refine lv_iadd hx hb dX5_offerOf_20 ?_
    rw [hm, ck_10, nI_add]
    refine lv_icmp_ge (tgt := 72) hx hb dX5_offerOf_21 (by decide) (fun _ => ?_) (fun c_21 => absurd (Int32.le_refl _) c_21)
    obtain ⟨ob, hob⟩ : ∃ ob, ck_of (fun k => V 29 (10 * i + k)) a1 m0 = ob := ⟨_, rfl⟩
    rw [hob] at hl
    rcases ob with _ | b
    · skip
      have hl : lv_has ls 5 [(4, .int (nI (10 * i + m0))), (3, .int (-1)), (0, .ref (ad 30)), (1, .int (nI i)), (2, .int a1)] := hl
      refine lv_iload_n hx hb dX5_offerOf_72 rfl (lv_at hl 1 rfl) ?_
      refine lv_iconst (v := (-1)) hx hb dX5_offerOf_73 (by decide) ?_
      refine lv_icmp_ne (tgt := 81) hx hb dX5_offerOf_74 (by decide) (fun c_74 => absurd (by decide) c_74) (fun _ => ?_)
      refine lv_iconst (v := (-1)) hx hb dX5_offerOf_77 (by decide) ?_
      refine lv_goto (tgt := 87) hx hb dX5_offerOf_78 (by decide) ?_
      exact W.iret (v := (-1)) hx hb hr (fun t ht hW9 => ⟨_, rfl, (by simp only [ck_mp, hob]), ht⟩) (fun _ h => nomatch h) dX5_offerOf_87
    · skip
      have hbk : b < m0 := ck_of_lt hob
      have hl : lv_has ls 5 [(4, .int (nI (10 * i + m0))), (3, .int (nI (10 * i + b))), (0, .ref (ad 30)), (1, .int (nI i)), (2, .int a1)] := hl
      refine lv_iload_n hx hb dX5_offerOf_72 rfl (lv_at hl 1 rfl) ?_
      refine lv_iconst (v := (-1)) hx hb dX5_offerOf_73 (by decide) ?_
      refine lv_icmp_ne (tgt := 81) hx hb dX5_offerOf_74 (by decide) (fun _ => ?_) (fun c_74 => absurd c_74 (ck_m1 (by omega)))
      refine lv_aload_n hx hb dX5_offerOf_81 rfl (lv_at hl 2 rfl) ?_
      refine ck_get (v := .ref (ad 51)) hx hb hts hinX5 hown hK hW (hM.n 30 (by decide) (by decide)) hM.f30 rfl 24 (by decide) (hts _ (List.mem_of_getElem? (i := 3) rfl)) rfl rfl dX5_offerOf_82 ?_
      refine lv_iload_n hx hb dX5_offerOf_85 rfl (lv_at hl 1 rfl) ?_
      refine ck_iald hx hb hK hW (hM.n 51 (by decide) (by decide)) hM.f51 (10 * i + b) (rfl) (by omega) (by decide) dX5_offerOf_86 ?_
      exact W.iret (v := (((V 30)) (10 * i + b))) hx hb hr (fun t ht hW9 => ⟨_, rfl, (by simp only [ck_mp, hob]), ht⟩) (fun _ h => nomatch h) dX5_offerOf_87
  · intro k8 hk8 hI8 ih8 ls hl
    have hl : lv_has ls 5 [(4, .int (nI (10 * i + k8))), (3, .int (ck_bo i (ck_of (fun k => V 29 (10 * i + k)) a1 k8))), (0, .ref (ad 30)), (1, .int (nI i)), (2, .int a1)] := hl
    refine lv_iload hx hb dX5_offerOf_8 (lv_at hl 0 rfl) ?_
    refine lv_bipush (v := 10) hx hb dX5_offerOf_10 (by decide) ?_
    refine lv_iload_n hx hb dX5_offerOf_12 rfl (lv_at hl 3 rfl) ?_
    refine lv_imul hx hb dX5_offerOf_13 ?_
    refine lv_aload_n hx hb dX5_offerOf_14 rfl (lv_at hl 2 rfl) ?_
    refine ck_get (v := .ref (ad 49)) hx hb hts hinX5 hown hK hW (hM.n 30 (by decide) (by decide)) hM.f30 rfl 22 (by decide) (hts _ (List.mem_of_getElem? (i := 1) rfl)) rfl rfl dX5_offerOf_15 ?_
    refine lv_iload_n hx hb dX5_offerOf_18 rfl (lv_at hl 3 rfl) ?_
    refine ck_iald hx hb hK hW (hM.n 49 (by decide) (by decide)) hM.f49 i (rfl) (by omega) (by decide) dX5_offerOf_19 ?_
    refine lv_iadd hx hb dX5_offerOf_20 ?_
    rw [hm, ck_10, nI_add]
    refine lv_icmp_ge (tgt := 72) hx hb dX5_offerOf_21 (by decide) (fun c_21 => absurd c_21 (nI_ge (by omega) (by omega))) (fun _ => ?_)
    refine lv_aload_n hx hb dX5_offerOf_24 rfl (lv_at hl 2 rfl) ?_
    refine ck_get (v := .ref (ad 50)) hx hb hts hinX5 hown hK hW (hM.n 30 (by decide) (by decide)) hM.f30 rfl 23 (by decide) (hts _ (List.mem_of_getElem? (i := 2) rfl)) rfl rfl dX5_offerOf_25 ?_
    refine lv_iload hx hb dX5_offerOf_28 (lv_at hl 0 rfl) ?_
    refine ck_iald hx hb hK hW (hM.n 50 (by decide) (by decide)) hM.f50 (10 * i + k8) (rfl) (by omega) (by decide) dX5_offerOf_30 ?_
    refine lv_iload_n hx hb dX5_offerOf_31 rfl (lv_at hl 4 rfl) ?_
    refine ck_cSi (As := [.int (((V 29)) (10 * i + k8)), .int a1]) (rest := []) ⟨hx, hb, hml, hown, hts⟩ hKK (ct_X5_fits l G s.heap ((((V 29)) (10 * i + k8))) a1 (hp29 k8 hk8) h0.1 h0.2) (va_cwS 2 hts gX5_offerOf_X5_fits rfl rfl rfl (by decide +kernel) ⟨Nat.le_of_ble_eq_true rfl, Nat.le_of_ble_eq_true rfl⟩) rfl hl rfl (Nat.le_of_ble_eq_true rfl) dX5_offerOf_32 ⟨Nat.le_of_ble_eq_true rfl, Nat.le_of_ble_eq_true rfl⟩ (fun r_32 h_32 => ?_)
    rcases h_32 with ⟨h_32, rfl⟩ | ⟨h_32, rfl⟩
    · skip
      refine lv_if_eq (tgt := 64) hx hb dX5_offerOf_35 (by decide) (fun c_35 => absurd c_35 (by decide)) (fun _ => ?_)
      obtain ⟨ob, hob⟩ : ∃ ob, ck_of (fun k => V 29 (10 * i + k)) a1 k8 = ob := ⟨_, rfl⟩
      rw [hob] at hl
      rcases ob with _ | b
      · skip
        have hl : lv_has ls 5 [(4, .int (nI (10 * i + k8))), (3, .int (-1)), (0, .ref (ad 30)), (1, .int (nI i)), (2, .int a1)] := hl
        refine lv_iload_n hx hb dX5_offerOf_38 rfl (lv_at hl 1 rfl) ?_
        refine lv_iconst (v := (-1)) hx hb dX5_offerOf_39 (by decide) ?_
        refine lv_icmp_eq (tgt := 59) hx hb dX5_offerOf_40 (by decide) (fun _ => ?_) (fun c_40 => absurd (by decide) c_40)
        refine lv_iload hx hb dX5_offerOf_59 (lv_at hl 0 rfl) ?_
        refine lv_goto (tgt := 65) hx hb dX5_offerOf_61 (by decide) ?_
        refine lv_istore_n (lv' := [(3, .int (nI (10 * i + k8))), (4, .int (nI (10 * i + k8))), (0, .ref (ad 30)), (1, .int (nI i)), (2, .int a1)]) hx hb dX5_offerOf_65 rfl hl (by decide) rfl (fun ls hl => ?_)
        refine lv_iinc (v := nI ((10 * i + k8) + 1)) (lv' := [(4, .int (nI ((10 * i + k8) + 1))), (3, .int (nI (10 * i + k8))), (0, .ref (ad 30)), (1, .int (nI i)), (2, .int a1)]) hx hb dX5_offerOf_66 hl (k := 1) rfl (nI_1 (10 * i + k8)) (by decide) rfl (fun ls hl => ?_)
        refine lv_goto (tgt := 8) hx hb dX5_offerOf_69 (by decide) ?_
        have e9 : ck_of (fun k => V 29 (10 * i + k)) a1 (k8 + 1) = _ := ck_of_yes h_32 (by rw [hob]; rfl)
        have hl : lv_has ls 5 [(4, .int (nI (10 * i + (k8 + 1)))), (3, .int (ck_bo i (ck_of (fun k => V 29 (10 * i + k)) a1 (k8 + 1)))), (0, .ref (ad 30)), (1, .int (nI i)), (2, .int a1)] := by rw [e9]; exact hl
        exact ih8 ls (lv_sub hl [0, 1, 2, 3, 4] rfl) (trivial)
      · skip
        have hbk : b < k8 := ck_of_lt hob
        have hl : lv_has ls 5 [(4, .int (nI (10 * i + k8))), (3, .int (nI (10 * i + b))), (0, .ref (ad 30)), (1, .int (nI i)), (2, .int a1)] := hl
        refine lv_iload_n hx hb dX5_offerOf_38 rfl (lv_at hl 1 rfl) ?_
        refine lv_iconst (v := (-1)) hx hb dX5_offerOf_39 (by decide) ?_
        refine lv_icmp_eq (tgt := 59) hx hb dX5_offerOf_40 (by decide) (fun c_40 => absurd c_40 (ck_m1 (by omega))) (fun _ => ?_)
        refine lv_aload_n hx hb dX5_offerOf_43 rfl (lv_at hl 2 rfl) ?_
        refine ck_get (v := .ref (ad 50)) hx hb hts hinX5 hown hK hW (hM.n 30 (by decide) (by decide)) hM.f30 rfl 23 (by decide) (hts _ (List.mem_of_getElem? (i := 2) rfl)) rfl rfl dX5_offerOf_44 ?_
        refine lv_iload hx hb dX5_offerOf_47 (lv_at hl 0 rfl) ?_
        refine ck_iald hx hb hK hW (hM.n 50 (by decide) (by decide)) hM.f50 (10 * i + k8) (rfl) (by omega) (by decide) dX5_offerOf_49 ?_
        refine lv_aload_n hx hb dX5_offerOf_50 rfl (lv_at hl 2 rfl) ?_
        refine ck_get (v := .ref (ad 50)) hx hb hts hinX5 hown hK hW (hM.n 30 (by decide) (by decide)) hM.f30 rfl 23 (by decide) (hts _ (List.mem_of_getElem? (i := 2) rfl)) rfl rfl dX5_offerOf_51 ?_
        refine lv_iload_n hx hb dX5_offerOf_54 rfl (lv_at hl 1 rfl) ?_
        refine ck_iald hx hb hK hW (hM.n 50 (by decide) (by decide)) hM.f50 (10 * i + b) (rfl) (by omega) (by decide) dX5_offerOf_55 ?_
        refine lv_icmp_le (tgt := 64) hx hb dX5_offerOf_56 (by decide) (fun c_56 => ?_) (fun c_56 => ?_)
        · skip
          refine lv_iload_n hx hb dX5_offerOf_64 rfl (lv_at hl 1 rfl) ?_
          refine lv_istore_n (lv' := [(3, .int (nI (10 * i + b))), (4, .int (nI (10 * i + k8))), (0, .ref (ad 30)), (1, .int (nI i)), (2, .int a1)]) hx hb dX5_offerOf_65 rfl hl (by decide) rfl (fun ls hl => ?_)
          refine lv_iinc (v := nI ((10 * i + k8) + 1)) (lv' := [(4, .int (nI ((10 * i + k8) + 1))), (3, .int (nI (10 * i + b))), (0, .ref (ad 30)), (1, .int (nI i)), (2, .int a1)]) hx hb dX5_offerOf_66 hl (k := 1) rfl (nI_1 (10 * i + k8)) (by decide) rfl (fun ls hl => ?_)
          refine lv_goto (tgt := 8) hx hb dX5_offerOf_69 (by decide) ?_
          have e9 : ck_of (fun k => V 29 (10 * i + k)) a1 (k8 + 1) = _ := ck_of_no (fun z => by have z2 := z.2; rw [hob] at z2; exact absurd (of_decide_eq_true z2) (Int32.not_lt.mpr c_56))
          have hl : lv_has ls 5 [(4, .int (nI (10 * i + (k8 + 1)))), (3, .int (ck_bo i (ck_of (fun k => V 29 (10 * i + k)) a1 (k8 + 1)))), (0, .ref (ad 30)), (1, .int (nI i)), (2, .int a1)] := by rw [e9, hob]; exact hl
          exact ih8 ls (lv_sub hl [0, 1, 2, 3, 4] rfl) (trivial)
        · skip
          refine lv_iload hx hb dX5_offerOf_59 (lv_at hl 0 rfl) ?_
          refine lv_goto (tgt := 65) hx hb dX5_offerOf_61 (by decide) ?_
          refine lv_istore_n (lv' := [(3, .int (nI (10 * i + k8))), (4, .int (nI (10 * i + k8))), (0, .ref (ad 30)), (1, .int (nI i)), (2, .int a1)]) hx hb dX5_offerOf_65 rfl hl (by decide) rfl (fun ls hl => ?_)
          refine lv_iinc (v := nI ((10 * i + k8) + 1)) (lv' := [(4, .int (nI ((10 * i + k8) + 1))), (3, .int (nI (10 * i + k8))), (0, .ref (ad 30)), (1, .int (nI i)), (2, .int a1)]) hx hb dX5_offerOf_66 hl (k := 1) rfl (nI_1 (10 * i + k8)) (by decide) rfl (fun ls hl => ?_)
          refine lv_goto (tgt := 8) hx hb dX5_offerOf_69 (by decide) ?_
          have e9 : ck_of (fun k => V 29 (10 * i + k)) a1 (k8 + 1) = _ := ck_of_yes h_32 (by rw [hob]; exact decide_eq_true (Int32.not_le.mp c_56))
          have hl : lv_has ls 5 [(4, .int (nI (10 * i + (k8 + 1)))), (3, .int (ck_bo i (ck_of (fun k => V 29 (10 * i + k)) a1 (k8 + 1)))), (0, .ref (ad 30)), (1, .int (nI i)), (2, .int a1)] := by rw [e9]; exact hl
          exact ih8 ls (lv_sub hl [0, 1, 2, 3, 4] rfl) (trivial)
    · skip
      refine lv_if_eq (tgt := 64) hx hb dX5_offerOf_35 (by decide) (fun _ => ?_) (fun c_35 => absurd (by decide) c_35)
      refine lv_iload_n hx hb dX5_offerOf_64 rfl (lv_at hl 1 rfl) ?_
      refine lv_istore_n (lv' := [(3, .int (ck_bo i (ck_of (fun k => V 29 (10 * i + k)) a1 k8))), (4, .int (nI (10 * i + k8))), (0, .ref (ad 30)), (1, .int (nI i)), (2, .int a1)]) hx hb dX5_offerOf_65 rfl hl (by decide) rfl (fun ls hl => ?_)
      refine lv_iinc (v := nI ((10 * i + k8) + 1)) (lv' := [(4, .int (nI ((10 * i + k8) + 1))), (3, .int (ck_bo i (ck_of (fun k => V 29 (10 * i + k)) a1 k8))), (0, .ref (ad 30)), (1, .int (nI i)), (2, .int a1)]) hx hb dX5_offerOf_66 hl (k := 1) rfl (nI_1 (10 * i + k8)) (by decide) rfl (fun ls hl => ?_)
      refine lv_goto (tgt := 8) hx hb dX5_offerOf_69 (by decide) ?_
      have e9 : ck_of (fun k => V 29 (10 * i + k)) a1 (k8 + 1) = _ := ck_of_no (fun z => h_32 z.1)
      have hl : lv_has ls 5 [(4, .int (nI (10 * i + (k8 + 1)))), (3, .int (ck_bo i (ck_of (fun k => V 29 (10 * i + k)) a1 (k8 + 1)))), (0, .ref (ad 30)), (1, .int (nI i)), (2, .int a1)] := by rw [e9]; exact hl
      exact ih8 ls (lv_sub hl [0, 1, 2, 3, 4] rfl) (trivial)
end
