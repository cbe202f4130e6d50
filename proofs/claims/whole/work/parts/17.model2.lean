theorem ck_name {G : ck_G} {ad : Nat → Nat} {N : Nat → Prop} {F : Nat → va_E} {i : Nat} {e : va_E} {H : Heap} (h : ck_W G ad N (va_up F i e) H) : ∃ F1, F1 i = e ∧ (∀ j, j ≠ i → F1 j = F j) ∧ ck_W G ad N F1 H := ⟨_, va_up_self _ _ _, fun _ hj => va_up_ne _ _ hj, h⟩
/-- outside the reference's cells nothing has changed -/
def ck_sM (F F1 : Nat → va_E) : Prop := ∀ i, (i < 30 ∨ 52 ≤ i) → F1 i = F i
theorem ck_sM.rf {F : Nat → va_E} : ck_sM F F := fun _ _ => rfl
theorem ck_sM.tr {F F1 F2 : Nat → va_E} (h : ck_sM F F1) (h2 : ck_sM F1 F2) : ck_sM F F2 := fun i hi => (h2 i hi).trans (h i hi)
theorem ck_sM.put {F F1 F2 : Nat → va_E} (h : ck_sM F F1) {i : Nat} (hi : 30 ≤ i ∧ i < 52) (o : ∀ j, j ≠ i → F2 j = F1 j) : ck_sM F F2 := fun j hj => (o j (by omega)).trans (h j hj)
theorem ck_M.set30 {G : ck_G} {ad : Nat → Nat} {V : Nat → Nat → Int32} {L : Nat → Nat → Int64} {nc nr nc1 nr1 : Nat} {t t1 b x : Int32} {N : Nat → Prop} {F F1 : Nat → va_E} (h : ck_M G ad V L nc nr t N F) (e : F1 30 = .inr (5, [.int b, .ref (ad 31), .ref (ad 32), .ref (ad 33), .ref (ad 34), .ref (ad 35), .int (nI nc1), .ref (ad 36), .ref (ad 37), .ref (ad 38), .ref (ad 39), .ref (ad 40), .ref (ad 41), .ref (ad 42), .int x, .int (nI nr1), .ref (ad 43), .ref (ad 44), .ref (ad 45), .ref (ad 46), .ref (ad 47), .ref (ad 48), .ref (ad 49), .ref (ad 50), .ref (ad 51), .int t1])) (o : ∀ j, j ≠ 30 → F1 j = F j) (hc : nc1 ≤ 60) (hr : nr1 ≤ 30) (hb : b = V 13 0) (hx : x = V 13 1) : ck_M G ad V L nc1 nr1 t1 N F1 :=
  ⟨hc, hr, by rw [e, hb, hx], (by obtain ⟨f, e1, e2⟩ := h.f31; exact ⟨f, (o 31 (by decide)).trans e1, e2⟩), (o 32 (by decide)).trans h.f32, (o 33 (by decide)).trans h.f33, (o 34 (by decide)).trans h.f34, (o 35 (by decide)).trans h.f35, (o 36 (by decide)).trans h.f36, (o 37 (by decide)).trans h.f37, (o 38 (by decide)).trans h.f38, (o 39 (by decide)).trans h.f39, (o 40 (by decide)).trans h.f40, (o 41 (by decide)).trans h.f41, (o 42 (by decide)).trans h.f42, (o 43 (by decide)).trans h.f43, (o 44 (by decide)).trans h.f44, (o 45 (by decide)).trans h.f45, (o 46 (by decide)).trans h.f46, (o 47 (by decide)).trans h.f47, (o 48 (by decide)).trans h.f48, (o 49 (by decide)).trans h.f49, (o 50 (by decide)).trans h.f50, (o 51 (by decide)).trans h.f51, h.n⟩
theorem ck_M.setB {G : ck_G} {ad : Nat → Nat} {V : Nat → Nat → Int32} {L : Nat → Nat → Int64} {nc nr : Nat} {t b x : Int32} {N : Nat → Prop} {F F1 : Nat → va_E} (h : ck_M G ad V L nc nr t N F) (e : F1 30 = .inr (5, [.int b, .ref (ad 31), .ref (ad 32), .ref (ad 33), .ref (ad 34), .ref (ad 35), .int (nI nc), .ref (ad 36), .ref (ad 37), .ref (ad 38), .ref (ad 39), .ref (ad 40), .ref (ad 41), .ref (ad 42), .int x, .int (nI nr), .ref (ad 43), .ref (ad 44), .ref (ad 45), .ref (ad 46), .ref (ad 47), .ref (ad 48), .ref (ad 49), .ref (ad 50), .ref (ad 51), .int t])) (o : ∀ j, j ≠ 30 → F1 j = F j) {g : Nat → Int32} (hb : b = g 0) (hx : x = g 1) : ck_M G ad (va_up V 13 g) L nc nr t N F1 :=
  ⟨h.nc, h.nr, by rw [e, hb, hx]; rfl, (by obtain ⟨f, e1, e2⟩ := h.f31; exact ⟨f, (o 31 (by decide)).trans e1, e2⟩), (o 32 (by decide)).trans h.f32, (o 33 (by decide)).trans h.f33, (o 34 (by decide)).trans h.f34, (o 35 (by decide)).trans h.f35, (o 36 (by decide)).trans h.f36, (o 37 (by decide)).trans h.f37, (o 38 (by decide)).trans h.f38, (o 39 (by decide)).trans h.f39, (o 40 (by decide)).trans h.f40, (o 41 (by decide)).trans h.f41, (o 42 (by decide)).trans h.f42, (o 43 (by decide)).trans h.f43, (o 44 (by decide)).trans h.f44, (o 45 (by decide)).trans h.f45, (o 46 (by decide)).trans h.f46, (o 47 (by decide)).trans h.f47, (o 48 (by decide)).trans h.f48, (o 49 (by decide)).trans h.f49, (o 50 (by decide)).trans h.f50, (o 51 (by decide)).trans h.f51, h.n⟩
theorem ck_M.set32 {G : ck_G} {ad : Nat → Nat} {V : Nat → Nat → Int32} {L : Nat → Nat → Int64} {nc nr : Nat} {t : Int32} {N : Nat → Prop} {F F1 : Nat → va_E} (h : ck_M G ad V L nc nr t N F) {x : Nat → Int32} (e : F1 32 = .inl (G.2.1 0, 3, .inl x)) (o : ∀ j, j ≠ 32 → F1 j = F j) : ck_M G ad (va_up V 14 x) L nc nr t N F1 :=
  ⟨h.nc, h.nr, (o 30 (by decide)).trans h.f30, (by obtain ⟨f, e1, e2⟩ := h.f31; exact ⟨f, (o 31 (by decide)).trans e1, e2⟩), e, (o 33 (by decide)).trans h.f33, (o 34 (by decide)).trans h.f34, (o 35 (by decide)).trans h.f35, (o 36 (by decide)).trans h.f36, (o 37 (by decide)).trans h.f37, (o 38 (by decide)).trans h.f38, (o 39 (by decide)).trans h.f39, (o 40 (by decide)).trans h.f40, (o 41 (by decide)).trans h.f41, (o 42 (by decide)).trans h.f42, (o 43 (by decide)).trans h.f43, (o 44 (by decide)).trans h.f44, (o 45 (by decide)).trans h.f45, (o 46 (by decide)).trans h.f46, (o 47 (by decide)).trans h.f47, (o 48 (by decide)).trans h.f48, (o 49 (by decide)).trans h.f49, (o 50 (by decide)).trans h.f50, (o 51 (by decide)).trans h.f51, h.n⟩
theorem ck_M.set33 {G : ck_G} {ad : Nat → Nat} {V : Nat → Nat → Int32} {L : Nat → Nat → Int64} {nc nr : Nat} {t : Int32} {N : Nat → Prop} {F F1 : Nat → va_E} (h : ck_M G ad V L nc nr t N F) {x : Nat → Int32} (e : F1 33 = .inl (G.2.1 0, 3, .inl x)) (o : ∀ j, j ≠ 33 → F1 j = F j) : ck_M G ad (va_up V 18 x) L nc nr t N F1 :=
  ⟨h.nc, h.nr, (o 30 (by decide)).trans h.f30, (by obtain ⟨f, e1, e2⟩ := h.f31; exact ⟨f, (o 31 (by decide)).trans e1, e2⟩), (o 32 (by decide)).trans h.f32, e, (o 34 (by decide)).trans h.f34, (o 35 (by decide)).trans h.f35, (o 36 (by decide)).trans h.f36, (o 37 (by decide)).trans h.f37, (o 38 (by decide)).trans h.f38, (o 39 (by decide)).trans h.f39, (o 40 (by decide)).trans h.f40, (o 41 (by decide)).trans h.f41, (o 42 (by decide)).trans h.f42, (o 43 (by decide)).trans h.f43, (o 44 (by decide)).trans h.f44, (o 45 (by decide)).trans h.f45, (o 46 (by decide)).trans h.f46, (o 47 (by decide)).trans h.f47, (o 48 (by decide)).trans h.f48, (o 49 (by decide)).trans h.f49, (o 50 (by decide)).trans h.f50, (o 51 (by decide)).trans h.f51, h.n⟩
theorem ck_M.set34 {G : ck_G} {ad : Nat → Nat} {V : Nat → Nat → Int32} {L : Nat → Nat → Int64} {nc nr : Nat} {t : Int32} {N : Nat → Prop} {F F1 : Nat → va_E} (h : ck_M G ad V L nc nr t N F) {x : Nat → Int32} (e : F1 34 = .inl (G.2.1 0, 3, .inl x)) (o : ∀ j, j ≠ 34 → F1 j = F j) : ck_M G ad (va_up V 19 x) L nc nr t N F1 :=
  ⟨h.nc, h.nr, (o 30 (by decide)).trans h.f30, (by obtain ⟨f, e1, e2⟩ := h.f31; exact ⟨f, (o 31 (by decide)).trans e1, e2⟩), (o 32 (by decide)).trans h.f32, (o 33 (by decide)).trans h.f33, e, (o 35 (by decide)).trans h.f35, (o 36 (by decide)).trans h.f36, (o 37 (by decide)).trans h.f37, (o 38 (by decide)).trans h.f38, (o 39 (by decide)).trans h.f39, (o 40 (by decide)).trans h.f40, (o 41 (by decide)).trans h.f41, (o 42 (by decide)).trans h.f42, (o 43 (by decide)).trans h.f43, (o 44 (by decide)).trans h.f44, (o 45 (by decide)).trans h.f45, (o 46 (by decide)).trans h.f46, (o 47 (by decide)).trans h.f47, (o 48 (by decide)).trans h.f48, (o 49 (by decide)).trans h.f49, (o 50 (by decide)).trans h.f50, (o 51 (by decide)).trans h.f51, h.n⟩
theorem ck_M.set35 {G : ck_G} {ad : Nat → Nat} {V : Nat → Nat → Int32} {L : Nat → Nat → Int64} {nc nr : Nat} {t : Int32} {N : Nat → Prop} {F F1 : Nat → va_E} (h : ck_M G ad V L nc nr t N F) {x : Nat → Int32} (e : F1 35 = .inl (G.2.1 0, 3, .inl x)) (o : ∀ j, j ≠ 35 → F1 j = F j) : ck_M G ad (va_up V 15 x) L nc nr t N F1 :=
  ⟨h.nc, h.nr, (o 30 (by decide)).trans h.f30, (by obtain ⟨f, e1, e2⟩ := h.f31; exact ⟨f, (o 31 (by decide)).trans e1, e2⟩), (o 32 (by decide)).trans h.f32, (o 33 (by decide)).trans h.f33, (o 34 (by decide)).trans h.f34, e, (o 36 (by decide)).trans h.f36, (o 37 (by decide)).trans h.f37, (o 38 (by decide)).trans h.f38, (o 39 (by decide)).trans h.f39, (o 40 (by decide)).trans h.f40, (o 41 (by decide)).trans h.f41, (o 42 (by decide)).trans h.f42, (o 43 (by decide)).trans h.f43, (o 44 (by decide)).trans h.f44, (o 45 (by decide)).trans h.f45, (o 46 (by decide)).trans h.f46, (o 47 (by decide)).trans h.f47, (o 48 (by decide)).trans h.f48, (o 49 (by decide)).trans h.f49, (o 50 (by decide)).trans h.f50, (o 51 (by decide)).trans h.f51, h.n⟩
theorem ck_M.set36 {G : ck_G} {ad : Nat → Nat} {V : Nat → Nat → Int32} {L : Nat → Nat → Int64} {nc nr : Nat} {t : Int32} {N : Nat → Prop} {F F1 : Nat → va_E} (h : ck_M G ad V L nc nr t N F) {x : Nat → Int32} (e : F1 36 = .inl (G.2.1 0, 60, .inl x)) (o : ∀ j, j ≠ 36 → F1 j = F j) : ck_M G ad (va_up V 0 x) L nc nr t N F1 :=
  ⟨h.nc, h.nr, (o 30 (by decide)).trans h.f30, (by obtain ⟨f, e1, e2⟩ := h.f31; exact ⟨f, (o 31 (by decide)).trans e1, e2⟩), (o 32 (by decide)).trans h.f32, (o 33 (by decide)).trans h.f33, (o 34 (by decide)).trans h.f34, (o 35 (by decide)).trans h.f35, e, (o 37 (by decide)).trans h.f37, (o 38 (by decide)).trans h.f38, (o 39 (by decide)).trans h.f39, (o 40 (by decide)).trans h.f40, (o 41 (by decide)).trans h.f41, (o 42 (by decide)).trans h.f42, (o 43 (by decide)).trans h.f43, (o 44 (by decide)).trans h.f44, (o 45 (by decide)).trans h.f45, (o 46 (by decide)).trans h.f46, (o 47 (by decide)).trans h.f47, (o 48 (by decide)).trans h.f48, (o 49 (by decide)).trans h.f49, (o 50 (by decide)).trans h.f50, (o 51 (by decide)).trans h.f51, h.n⟩
theorem ck_M.set37 {G : ck_G} {ad : Nat → Nat} {V : Nat → Nat → Int32} {L : Nat → Nat → Int64} {nc nr : Nat} {t : Int32} {N : Nat → Prop} {F F1 : Nat → va_E} (h : ck_M G ad V L nc nr t N F) {x : Nat → Int32} (e : F1 37 = .inl (G.2.1 0, 60, .inl x)) (o : ∀ j, j ≠ 37 → F1 j = F j) : ck_M G ad (va_up V 1 x) L nc nr t N F1 :=
  ⟨h.nc, h.nr, (o 30 (by decide)).trans h.f30, (by obtain ⟨f, e1, e2⟩ := h.f31; exact ⟨f, (o 31 (by decide)).trans e1, e2⟩), (o 32 (by decide)).trans h.f32, (o 33 (by decide)).trans h.f33, (o 34 (by decide)).trans h.f34, (o 35 (by decide)).trans h.f35, (o 36 (by decide)).trans h.f36, e, (o 38 (by decide)).trans h.f38, (o 39 (by decide)).trans h.f39, (o 40 (by decide)).trans h.f40, (o 41 (by decide)).trans h.f41, (o 42 (by decide)).trans h.f42, (o 43 (by decide)).trans h.f43, (o 44 (by decide)).trans h.f44, (o 45 (by decide)).trans h.f45, (o 46 (by decide)).trans h.f46, (o 47 (by decide)).trans h.f47, (o 48 (by decide)).trans h.f48, (o 49 (by decide)).trans h.f49, (o 50 (by decide)).trans h.f50, (o 51 (by decide)).trans h.f51, h.n⟩
theorem ck_M.set38 {G : ck_G} {ad : Nat → Nat} {V : Nat → Nat → Int32} {L : Nat → Nat → Int64} {nc nr : Nat} {t : Int32} {N : Nat → Prop} {F F1 : Nat → va_E} (h : ck_M G ad V L nc nr t N F) {x : Nat → Int32} (e : F1 38 = .inl (G.2.1 0, 60, .inl x)) (o : ∀ j, j ≠ 38 → F1 j = F j) : ck_M G ad (va_up V 2 x) L nc nr t N F1 :=
  ⟨h.nc, h.nr, (o 30 (by decide)).trans h.f30, (by obtain ⟨f, e1, e2⟩ := h.f31; exact ⟨f, (o 31 (by decide)).trans e1, e2⟩), (o 32 (by decide)).trans h.f32, (o 33 (by decide)).trans h.f33, (o 34 (by decide)).trans h.f34, (o 35 (by decide)).trans h.f35, (o 36 (by decide)).trans h.f36, (o 37 (by decide)).trans h.f37, e, (o 39 (by decide)).trans h.f39, (o 40 (by decide)).trans h.f40, (o 41 (by decide)).trans h.f41, (o 42 (by decide)).trans h.f42, (o 43 (by decide)).trans h.f43, (o 44 (by decide)).trans h.f44, (o 45 (by decide)).trans h.f45, (o 46 (by decide)).trans h.f46, (o 47 (by decide)).trans h.f47, (o 48 (by decide)).trans h.f48, (o 49 (by decide)).trans h.f49, (o 50 (by decide)).trans h.f50, (o 51 (by decide)).trans h.f51, h.n⟩
theorem ck_M.set39 {G : ck_G} {ad : Nat → Nat} {V : Nat → Nat → Int32} {L : Nat → Nat → Int64} {nc nr : Nat} {t : Int32} {N : Nat → Prop} {F F1 : Nat → va_E} (h : ck_M G ad V L nc nr t N F) {x : Nat → Int32} (e : F1 39 = .inl (G.2.1 0, 60, .inl x)) (o : ∀ j, j ≠ 39 → F1 j = F j) : ck_M G ad (va_up V 4 x) L nc nr t N F1 :=
  ⟨h.nc, h.nr, (o 30 (by decide)).trans h.f30, (by obtain ⟨f, e1, e2⟩ := h.f31; exact ⟨f, (o 31 (by decide)).trans e1, e2⟩), (o 32 (by decide)).trans h.f32, (o 33 (by decide)).trans h.f33, (o 34 (by decide)).trans h.f34, (o 35 (by decide)).trans h.f35, (o 36 (by decide)).trans h.f36, (o 37 (by decide)).trans h.f37, (o 38 (by decide)).trans h.f38, e, (o 40 (by decide)).trans h.f40, (o 41 (by decide)).trans h.f41, (o 42 (by decide)).trans h.f42, (o 43 (by decide)).trans h.f43, (o 44 (by decide)).trans h.f44, (o 45 (by decide)).trans h.f45, (o 46 (by decide)).trans h.f46, (o 47 (by decide)).trans h.f47, (o 48 (by decide)).trans h.f48, (o 49 (by decide)).trans h.f49, (o 50 (by decide)).trans h.f50, (o 51 (by decide)).trans h.f51, h.n⟩
theorem ck_M.set40 {G : ck_G} {ad : Nat → Nat} {V : Nat → Nat → Int32} {L : Nat → Nat → Int64} {nc nr : Nat} {t : Int32} {N : Nat → Prop} {F F1 : Nat → va_E} (h : ck_M G ad V L nc nr t N F) {x : Nat → Int32} (e : F1 40 = .inl (G.2.1 0, 60, .inl x)) (o : ∀ j, j ≠ 40 → F1 j = F j) : ck_M G ad (va_up V 3 x) L nc nr t N F1 :=
  ⟨h.nc, h.nr, (o 30 (by decide)).trans h.f30, (by obtain ⟨f, e1, e2⟩ := h.f31; exact ⟨f, (o 31 (by decide)).trans e1, e2⟩), (o 32 (by decide)).trans h.f32, (o 33 (by decide)).trans h.f33, (o 34 (by decide)).trans h.f34, (o 35 (by decide)).trans h.f35, (o 36 (by decide)).trans h.f36, (o 37 (by decide)).trans h.f37, (o 38 (by decide)).trans h.f38, (o 39 (by decide)).trans h.f39, e, (o 41 (by decide)).trans h.f41, (o 42 (by decide)).trans h.f42, (o 43 (by decide)).trans h.f43, (o 44 (by decide)).trans h.f44, (o 45 (by decide)).trans h.f45, (o 46 (by decide)).trans h.f46, (o 47 (by decide)).trans h.f47, (o 48 (by decide)).trans h.f48, (o 49 (by decide)).trans h.f49, (o 50 (by decide)).trans h.f50, (o 51 (by decide)).trans h.f51, h.n⟩
theorem ck_M.set41 {G : ck_G} {ad : Nat → Nat} {V : Nat → Nat → Int32} {L : Nat → Nat → Int64} {nc nr : Nat} {t : Int32} {N : Nat → Prop} {F F1 : Nat → va_E} (h : ck_M G ad V L nc nr t N F) {x : Nat → Int32} (e : F1 41 = .inl (G.2.1 0, 60, .inl x)) (o : ∀ j, j ≠ 41 → F1 j = F j) : ck_M G ad (va_up V 5 x) L nc nr t N F1 :=
  ⟨h.nc, h.nr, (o 30 (by decide)).trans h.f30, (by obtain ⟨f, e1, e2⟩ := h.f31; exact ⟨f, (o 31 (by decide)).trans e1, e2⟩), (o 32 (by decide)).trans h.f32, (o 33 (by decide)).trans h.f33, (o 34 (by decide)).trans h.f34, (o 35 (by decide)).trans h.f35, (o 36 (by decide)).trans h.f36, (o 37 (by decide)).trans h.f37, (o 38 (by decide)).trans h.f38, (o 39 (by decide)).trans h.f39, (o 40 (by decide)).trans h.f40, e, (o 42 (by decide)).trans h.f42, (o 43 (by decide)).trans h.f43, (o 44 (by decide)).trans h.f44, (o 45 (by decide)).trans h.f45, (o 46 (by decide)).trans h.f46, (o 47 (by decide)).trans h.f47, (o 48 (by decide)).trans h.f48, (o 49 (by decide)).trans h.f49, (o 50 (by decide)).trans h.f50, (o 51 (by decide)).trans h.f51, h.n⟩
theorem ck_M.set42 {G : ck_G} {ad : Nat → Nat} {V : Nat → Nat → Int32} {L : Nat → Nat → Int64} {nc nr : Nat} {t : Int32} {N : Nat → Prop} {F F1 : Nat → va_E} (h : ck_M G ad V L nc nr t N F) {x : Nat → Int32} (e : F1 42 = .inl (G.2.1 0, 60, .inl x)) (o : ∀ j, j ≠ 42 → F1 j = F j) : ck_M G ad (va_up V 6 x) L nc nr t N F1 :=
  ⟨h.nc, h.nr, (o 30 (by decide)).trans h.f30, (by obtain ⟨f, e1, e2⟩ := h.f31; exact ⟨f, (o 31 (by decide)).trans e1, e2⟩), (o 32 (by decide)).trans h.f32, (o 33 (by decide)).trans h.f33, (o 34 (by decide)).trans h.f34, (o 35 (by decide)).trans h.f35, (o 36 (by decide)).trans h.f36, (o 37 (by decide)).trans h.f37, (o 38 (by decide)).trans h.f38, (o 39 (by decide)).trans h.f39, (o 40 (by decide)).trans h.f40, (o 41 (by decide)).trans h.f41, e, (o 43 (by decide)).trans h.f43, (o 44 (by decide)).trans h.f44, (o 45 (by decide)).trans h.f45, (o 46 (by decide)).trans h.f46, (o 47 (by decide)).trans h.f47, (o 48 (by decide)).trans h.f48, (o 49 (by decide)).trans h.f49, (o 50 (by decide)).trans h.f50, (o 51 (by decide)).trans h.f51, h.n⟩
theorem ck_M.set43 {G : ck_G} {ad : Nat → Nat} {V : Nat → Nat → Int32} {L : Nat → Nat → Int64} {nc nr : Nat} {t : Int32} {N : Nat → Prop} {F F1 : Nat → va_E} (h : ck_M G ad V L nc nr t N F) {x : Nat → Int32} (e : F1 43 = .inl (G.2.1 0, 30, .inl x)) (o : ∀ j, j ≠ 43 → F1 j = F j) : ck_M G ad (va_up V 7 x) L nc nr t N F1 :=
  ⟨h.nc, h.nr, (o 30 (by decide)).trans h.f30, (by obtain ⟨f, e1, e2⟩ := h.f31; exact ⟨f, (o 31 (by decide)).trans e1, e2⟩), (o 32 (by decide)).trans h.f32, (o 33 (by decide)).trans h.f33, (o 34 (by decide)).trans h.f34, (o 35 (by decide)).trans h.f35, (o 36 (by decide)).trans h.f36, (o 37 (by decide)).trans h.f37, (o 38 (by decide)).trans h.f38, (o 39 (by decide)).trans h.f39, (o 40 (by decide)).trans h.f40, (o 41 (by decide)).trans h.f41, (o 42 (by decide)).trans h.f42, e, (o 44 (by decide)).trans h.f44, (o 45 (by decide)).trans h.f45, (o 46 (by decide)).trans h.f46, (o 47 (by decide)).trans h.f47, (o 48 (by decide)).trans h.f48, (o 49 (by decide)).trans h.f49, (o 50 (by decide)).trans h.f50, (o 51 (by decide)).trans h.f51, h.n⟩
theorem ck_M.set44 {G : ck_G} {ad : Nat → Nat} {V : Nat → Nat → Int32} {L : Nat → Nat → Int64} {nc nr : Nat} {t : Int32} {N : Nat → Prop} {F F1 : Nat → va_E} (h : ck_M G ad V L nc nr t N F) {x : Nat → Int32} (e : F1 44 = .inl (G.2.1 0, 30, .inl x)) (o : ∀ j, j ≠ 44 → F1 j = F j) : ck_M G ad (va_up V 8 x) L nc nr t N F1 :=
  ⟨h.nc, h.nr, (o 30 (by decide)).trans h.f30, (by obtain ⟨f, e1, e2⟩ := h.f31; exact ⟨f, (o 31 (by decide)).trans e1, e2⟩), (o 32 (by decide)).trans h.f32, (o 33 (by decide)).trans h.f33, (o 34 (by decide)).trans h.f34, (o 35 (by decide)).trans h.f35, (o 36 (by decide)).trans h.f36, (o 37 (by decide)).trans h.f37, (o 38 (by decide)).trans h.f38, (o 39 (by decide)).trans h.f39, (o 40 (by decide)).trans h.f40, (o 41 (by decide)).trans h.f41, (o 42 (by decide)).trans h.f42, (o 43 (by decide)).trans h.f43, e, (o 45 (by decide)).trans h.f45, (o 46 (by decide)).trans h.f46, (o 47 (by decide)).trans h.f47, (o 48 (by decide)).trans h.f48, (o 49 (by decide)).trans h.f49, (o 50 (by decide)).trans h.f50, (o 51 (by decide)).trans h.f51, h.n⟩
theorem ck_M.set45 {G : ck_G} {ad : Nat → Nat} {V : Nat → Nat → Int32} {L : Nat → Nat → Int64} {nc nr : Nat} {t : Int32} {N : Nat → Prop} {F F1 : Nat → va_E} (h : ck_M G ad V L nc nr t N F) {x : Nat → Int32} (e : F1 45 = .inl (G.2.1 0, 30, .inl x)) (o : ∀ j, j ≠ 45 → F1 j = F j) : ck_M G ad (va_up V 9 x) L nc nr t N F1 :=
  ⟨h.nc, h.nr, (o 30 (by decide)).trans h.f30, (by obtain ⟨f, e1, e2⟩ := h.f31; exact ⟨f, (o 31 (by decide)).trans e1, e2⟩), (o 32 (by decide)).trans h.f32, (o 33 (by decide)).trans h.f33, (o 34 (by decide)).trans h.f34, (o 35 (by decide)).trans h.f35, (o 36 (by decide)).trans h.f36, (o 37 (by decide)).trans h.f37, (o 38 (by decide)).trans h.f38, (o 39 (by decide)).trans h.f39, (o 40 (by decide)).trans h.f40, (o 41 (by decide)).trans h.f41, (o 42 (by decide)).trans h.f42, (o 43 (by decide)).trans h.f43, (o 44 (by decide)).trans h.f44, e, (o 46 (by decide)).trans h.f46, (o 47 (by decide)).trans h.f47, (o 48 (by decide)).trans h.f48, (o 49 (by decide)).trans h.f49, (o 50 (by decide)).trans h.f50, (o 51 (by decide)).trans h.f51, h.n⟩
theorem ck_M.set46 {G : ck_G} {ad : Nat → Nat} {V : Nat → Nat → Int32} {L : Nat → Nat → Int64} {nc nr : Nat} {t : Int32} {N : Nat → Prop} {F F1 : Nat → va_E} (h : ck_M G ad V L nc nr t N F) {x : Nat → Int32} (e : F1 46 = .inl (G.2.1 0, 30, .inl x)) (o : ∀ j, j ≠ 46 → F1 j = F j) : ck_M G ad (va_up V 10 x) L nc nr t N F1 :=
  ⟨h.nc, h.nr, (o 30 (by decide)).trans h.f30, (by obtain ⟨f, e1, e2⟩ := h.f31; exact ⟨f, (o 31 (by decide)).trans e1, e2⟩), (o 32 (by decide)).trans h.f32, (o 33 (by decide)).trans h.f33, (o 34 (by decide)).trans h.f34, (o 35 (by decide)).trans h.f35, (o 36 (by decide)).trans h.f36, (o 37 (by decide)).trans h.f37, (o 38 (by decide)).trans h.f38, (o 39 (by decide)).trans h.f39, (o 40 (by decide)).trans h.f40, (o 41 (by decide)).trans h.f41, (o 42 (by decide)).trans h.f42, (o 43 (by decide)).trans h.f43, (o 44 (by decide)).trans h.f44, (o 45 (by decide)).trans h.f45, e, (o 47 (by decide)).trans h.f47, (o 48 (by decide)).trans h.f48, (o 49 (by decide)).trans h.f49, (o 50 (by decide)).trans h.f50, (o 51 (by decide)).trans h.f51, h.n⟩
theorem ck_M.set47 {G : ck_G} {ad : Nat → Nat} {V : Nat → Nat → Int32} {L : Nat → Nat → Int64} {nc nr : Nat} {t : Int32} {N : Nat → Prop} {F F1 : Nat → va_E} (h : ck_M G ad V L nc nr t N F) {x : Nat → Int32} (e : F1 47 = .inl (G.2.1 0, 30, .inl x)) (o : ∀ j, j ≠ 47 → F1 j = F j) : ck_M G ad (va_up V 11 x) L nc nr t N F1 :=
  ⟨h.nc, h.nr, (o 30 (by decide)).trans h.f30, (by obtain ⟨f, e1, e2⟩ := h.f31; exact ⟨f, (o 31 (by decide)).trans e1, e2⟩), (o 32 (by decide)).trans h.f32, (o 33 (by decide)).trans h.f33, (o 34 (by decide)).trans h.f34, (o 35 (by decide)).trans h.f35, (o 36 (by decide)).trans h.f36, (o 37 (by decide)).trans h.f37, (o 38 (by decide)).trans h.f38, (o 39 (by decide)).trans h.f39, (o 40 (by decide)).trans h.f40, (o 41 (by decide)).trans h.f41, (o 42 (by decide)).trans h.f42, (o 43 (by decide)).trans h.f43, (o 44 (by decide)).trans h.f44, (o 45 (by decide)).trans h.f45, (o 46 (by decide)).trans h.f46, e, (o 48 (by decide)).trans h.f48, (o 49 (by decide)).trans h.f49, (o 50 (by decide)).trans h.f50, (o 51 (by decide)).trans h.f51, h.n⟩
theorem ck_M.set48 {G : ck_G} {ad : Nat → Nat} {V : Nat → Nat → Int32} {L : Nat → Nat → Int64} {nc nr : Nat} {t : Int32} {N : Nat → Prop} {F F1 : Nat → va_E} (h : ck_M G ad V L nc nr t N F) {x : Nat → Int32} (e : F1 48 = .inl (G.2.1 0, 30, .inl x)) (o : ∀ j, j ≠ 48 → F1 j = F j) : ck_M G ad (va_up V 12 x) L nc nr t N F1 :=
  ⟨h.nc, h.nr, (o 30 (by decide)).trans h.f30, (by obtain ⟨f, e1, e2⟩ := h.f31; exact ⟨f, (o 31 (by decide)).trans e1, e2⟩), (o 32 (by decide)).trans h.f32, (o 33 (by decide)).trans h.f33, (o 34 (by decide)).trans h.f34, (o 35 (by decide)).trans h.f35, (o 36 (by decide)).trans h.f36, (o 37 (by decide)).trans h.f37, (o 38 (by decide)).trans h.f38, (o 39 (by decide)).trans h.f39, (o 40 (by decide)).trans h.f40, (o 41 (by decide)).trans h.f41, (o 42 (by decide)).trans h.f42, (o 43 (by decide)).trans h.f43, (o 44 (by decide)).trans h.f44, (o 45 (by decide)).trans h.f45, (o 46 (by decide)).trans h.f46, (o 47 (by decide)).trans h.f47, e, (o 49 (by decide)).trans h.f49, (o 50 (by decide)).trans h.f50, (o 51 (by decide)).trans h.f51, h.n⟩
theorem ck_M.set49 {G : ck_G} {ad : Nat → Nat} {V : Nat → Nat → Int32} {L : Nat → Nat → Int64} {nc nr : Nat} {t : Int32} {N : Nat → Prop} {F F1 : Nat → va_E} (h : ck_M G ad V L nc nr t N F) {x : Nat → Int32} (e : F1 49 = .inl (G.2.1 0, 4, .inl x)) (o : ∀ j, j ≠ 49 → F1 j = F j) : ck_M G ad (va_up V 28 x) L nc nr t N F1 :=
  ⟨h.nc, h.nr, (o 30 (by decide)).trans h.f30, (by obtain ⟨f, e1, e2⟩ := h.f31; exact ⟨f, (o 31 (by decide)).trans e1, e2⟩), (o 32 (by decide)).trans h.f32, (o 33 (by decide)).trans h.f33, (o 34 (by decide)).trans h.f34, (o 35 (by decide)).trans h.f35, (o 36 (by decide)).trans h.f36, (o 37 (by decide)).trans h.f37, (o 38 (by decide)).trans h.f38, (o 39 (by decide)).trans h.f39, (o 40 (by decide)).trans h.f40, (o 41 (by decide)).trans h.f41, (o 42 (by decide)).trans h.f42, (o 43 (by decide)).trans h.f43, (o 44 (by decide)).trans h.f44, (o 45 (by decide)).trans h.f45, (o 46 (by decide)).trans h.f46, (o 47 (by decide)).trans h.f47, (o 48 (by decide)).trans h.f48, e, (o 50 (by decide)).trans h.f50, (o 51 (by decide)).trans h.f51, h.n⟩
theorem ck_M.set50 {G : ck_G} {ad : Nat → Nat} {V : Nat → Nat → Int32} {L : Nat → Nat → Int64} {nc nr : Nat} {t : Int32} {N : Nat → Prop} {F F1 : Nat → va_E} (h : ck_M G ad V L nc nr t N F) {x : Nat → Int32} (e : F1 50 = .inl (G.2.1 0, 40, .inl x)) (o : ∀ j, j ≠ 50 → F1 j = F j) : ck_M G ad (va_up V 29 x) L nc nr t N F1 :=
  ⟨h.nc, h.nr, (o 30 (by decide)).trans h.f30, (by obtain ⟨f, e1, e2⟩ := h.f31; exact ⟨f, (o 31 (by decide)).trans e1, e2⟩), (o 32 (by decide)).trans h.f32, (o 33 (by decide)).trans h.f33, (o 34 (by decide)).trans h.f34, (o 35 (by decide)).trans h.f35, (o 36 (by decide)).trans h.f36, (o 37 (by decide)).trans h.f37, (o 38 (by decide)).trans h.f38, (o 39 (by decide)).trans h.f39, (o 40 (by decide)).trans h.f40, (o 41 (by decide)).trans h.f41, (o 42 (by decide)).trans h.f42, (o 43 (by decide)).trans h.f43, (o 44 (by decide)).trans h.f44, (o 45 (by decide)).trans h.f45, (o 46 (by decide)).trans h.f46, (o 47 (by decide)).trans h.f47, (o 48 (by decide)).trans h.f48, (o 49 (by decide)).trans h.f49, e, (o 51 (by decide)).trans h.f51, h.n⟩
theorem ck_M.set51 {G : ck_G} {ad : Nat → Nat} {V : Nat → Nat → Int32} {L : Nat → Nat → Int64} {nc nr : Nat} {t : Int32} {N : Nat → Prop} {F F1 : Nat → va_E} (h : ck_M G ad V L nc nr t N F) {x : Nat → Int32} (e : F1 51 = .inl (G.2.1 0, 40, .inl x)) (o : ∀ j, j ≠ 51 → F1 j = F j) : ck_M G ad (va_up V 30 x) L nc nr t N F1 :=
  ⟨h.nc, h.nr, (o 30 (by decide)).trans h.f30, (by obtain ⟨f, e1, e2⟩ := h.f31; exact ⟨f, (o 31 (by decide)).trans e1, e2⟩), (o 32 (by decide)).trans h.f32, (o 33 (by decide)).trans h.f33, (o 34 (by decide)).trans h.f34, (o 35 (by decide)).trans h.f35, (o 36 (by decide)).trans h.f36, (o 37 (by decide)).trans h.f37, (o 38 (by decide)).trans h.f38, (o 39 (by decide)).trans h.f39, (o 40 (by decide)).trans h.f40, (o 41 (by decide)).trans h.f41, (o 42 (by decide)).trans h.f42, (o 43 (by decide)).trans h.f43, (o 44 (by decide)).trans h.f44, (o 45 (by decide)).trans h.f45, (o 46 (by decide)).trans h.f46, (o 47 (by decide)).trans h.f47, (o 48 (by decide)).trans h.f48, (o 49 (by decide)).trans h.f49, (o 50 (by decide)).trans h.f50, e, h.n⟩
set_option maxHeartbeats 4000000 in
set_option maxRecDepth 100000 in
theorem ct_X5_asks1 (l : Launch) (G : ck_G) (H : Heap) (ad : Nat → Nat) (N : Nat → Prop) (F : Nat → va_E) (hW : ck_W G ad N F H) (V : Nat → Nat → Int32) (L : Nat → Nat → Int64) (nc nr : Nat) (t : Int32) (hM : ck_M G ad V L nc nr t N F) : Met l yX5_asks wsX5_asks ({ frames := 0, cells := 0, slots := 0, locals := 0 }) (ck_P G H [.ref (ad 30), .int 1]) (ck_Qi G (fun r H1 => r = 1 ∧ ∃ F1, ck_W G ad N F1 H1 ∧ ck_M G ad V L nc nr 0 N F1 ∧ ck_sM F F1)) 0 0 (ck_A G) := by
  refine Met.ofW (cc := cX5_asks) (maxL := 2) (ret := (some .boolean)) (by decide) rfl ?_
  intro p e s m args below meth c s₁ B hml hv
  obtain ⟨rfl, hH, hKK⟩ := hv
  subst hH
  have hx := B.exec
  have hb := B.bytes
  have hr := B.returns
  have hts := atoms_spec (ws := wsX5_asks) B.pre
  have hown : s.vm.findClass RX5 = some m.cls := findClass_of_methodNamed B.named
  have hlocks := B.notSynchronized
  have hKK0 := hKK
  have hK := hKK.1.1
  have hS : va_S (ck_A G) s.heap s.heap [] := va_S.rf
  have hinX5 : ∀ w ∈ u_ws RX5 TX5 26, w ∈ wsX5_asks := by decide +kernel
  have hl := lv_entry ([.ref (ad 30), .int 1]) (n := 2) (Nat.le_of_ble_eq_true rfl)
  rw [lg_entry_eq]
  generalize (lg_sl ([.ref (ad 30), .int 1]) ++ List.replicate (2 - (lg_sl ([.ref (ad 30), .int 1])).length) Slot.unset).toArray = ls at hl ⊢
  have hl : lv_has ls 2 [(0, .ref (ad 30)), (1, .int 1)] := hl
  refine lv_aload_n hx hb dX5_asks_0 rfl (lv_at hl 0 rfl) ?_
  refine lv_iload_n hx hb dX5_asks_1 rfl (lv_at hl 1 rfl) ?_
  refine lv_if_eq (tgt := 9) hx hb dX5_asks_2 (by decide) (fun c_2 => absurd c_2 (by decide)) (fun _ => ?_)
  refine lv_iconst (v := 0) hx hb dX5_asks_5 (by decide) ?_
  refine lv_goto (tgt := 10) hx hb dX5_asks_6 (by decide) ?_
  refine ck_put (v := .int 0) (ty := .int) hx hb hts hinX5 tyX5 tyX5_ok nmX5 hown hK hW hS (hM.n 30 (by decide) (by decide)) hM.f30 rfl 25 (by decide) (hts _ (List.mem_of_getElem? (i := 1) rfl)) rfl rfl (by decide +kernel) rfl rfl (Nat.le_of_ble_eq_true rfl) dX5_asks_10 (fun H locs hW hS hz10 => ?_)
  obtain ⟨F_10, hFe10, hFo10, hW⟩ := ck_name hW
  have hKK := hKK0.keep hS.2.1
  refine lv_iload_n hx hb dX5_asks_13 rfl (lv_at hl 1 rfl) ?_
  exact W.zret (v := 1) hx hb hr rfl (fun t ht hW9 => ⟨⟨_, rfl, by rw [ht]; exact ⟨rfl, F_10, hW, hM.set30 hFe10 hFo10 hM.nc hM.nr rfl rfl, ck_sM.rf.put (by decide) hFo10⟩⟩, hS.F ht⟩) hS.2.2 dX5_asks_14
set_option maxHeartbeats 4000000 in
set_option maxRecDepth 100000 in
theorem ct_X5_asks0 (l : Launch) (G : ck_G) (H : Heap) (ad : Nat → Nat) (N : Nat → Prop) (F : Nat → va_E) (hW : ck_W G ad N F H) (V : Nat → Nat → Int32) (L : Nat → Nat → Int64) (nc nr : Nat) (t : Int32) (hM : ck_M G ad V L nc nr t N F) : Met l yX5_asks wsX5_asks ({ frames := 0, cells := 0, slots := 0, locals := 0 }) (ck_P G H [.ref (ad 30), .int 0]) (ck_Qi G (fun r H1 => r = 0 ∧ ∃ F1, ck_W G ad N F1 H1 ∧ ck_M G ad V L nc nr 1 N F1 ∧ ck_sM F F1)) 0 0 (ck_A G) := by
  refine Met.ofW (cc := cX5_asks) (maxL := 2) (ret := (some .boolean)) (by decide) rfl ?_
  intro p e s m args below meth c s₁ B hml hv
  obtain ⟨rfl, hH, hKK⟩ := hv
  subst hH
  have hx := B.exec
  have hb := B.bytes
  have hr := B.returns
  have hts := atoms_spec (ws := wsX5_asks) B.pre
  have hown : s.vm.findClass RX5 = some m.cls := findClass_of_methodNamed B.named
  have hlocks := B.notSynchronized
  have hKK0 := hKK
  have hK := hKK.1.1
  have hS : va_S (ck_A G) s.heap s.heap [] := va_S.rf
  have hinX5 : ∀ w ∈ u_ws RX5 TX5 26, w ∈ wsX5_asks := by decide +kernel
  have hl := lv_entry ([.ref (ad 30), .int 0]) (n := 2) (Nat.le_of_ble_eq_true rfl)
  rw [lg_entry_eq]
  generalize (lg_sl ([.ref (ad 30), .int 0]) ++ List.replicate (2 - (lg_sl ([.ref (ad 30), .int 0])).length) Slot.unset).toArray = ls at hl ⊢
  have hl : lv_has ls 2 [(0, .ref (ad 30)), (1, .int 0)] := hl
  refine lv_aload_n hx hb dX5_asks_0 rfl (lv_at hl 0 rfl) ?_
  refine lv_iload_n hx hb dX5_asks_1 rfl (lv_at hl 1 rfl) ?_
  refine lv_if_eq (tgt := 9) hx hb dX5_asks_2 (by decide) (fun _ => ?_) (fun c_2 => absurd (by decide) c_2)
  refine lv_iconst (v := 1) hx hb dX5_asks_9 (by decide) ?_
  refine ck_put (v := .int 1) (ty := .int) hx hb hts hinX5 tyX5 tyX5_ok nmX5 hown hK hW hS (hM.n 30 (by decide) (by decide)) hM.f30 rfl 25 (by decide) (hts _ (List.mem_of_getElem? (i := 1) rfl)) rfl rfl (by decide +kernel) rfl rfl (Nat.le_of_ble_eq_true rfl) dX5_asks_10 (fun H locs hW hS hz10 => ?_)
  obtain ⟨F_10, hFe10, hFo10, hW⟩ := ck_name hW
  have hKK := hKK0.keep hS.2.1
  refine lv_iload_n hx hb dX5_asks_13 rfl (lv_at hl 1 rfl) ?_
  exact W.zret (v := 0) hx hb hr rfl (fun t ht hW9 => ⟨⟨_, rfl, by rw [ht]; exact ⟨rfl, F_10, hW, hM.set30 hFe10 hFo10 hM.nc hM.nr rfl rfl, ck_sM.rf.put (by decide) hFo10⟩⟩, hS.F ht⟩) hS.2.2 dX5_asks_14
set_option maxHeartbeats 4000000 in
set_option maxRecDepth 100000 in
theorem ct_X5_fails (l : Launch) (G : ck_G) (H : Heap) (ad : Nat → Nat) (N : Nat → Prop) (F : Nat → va_E) (hW : ck_W G ad N F H) (V : Nat → Nat → Int32) (L : Nat → Nat → Int64) (nc nr : Nat) (t : Int32) (hM : ck_M G ad V L nc nr t N F) (a0 : Int32) : Met l yX5_fails wsX5_fails ({ frames := 0, cells := 0, slots := 0, locals := 0 }) (ck_P G H [.ref (ad 30), .int a0]) (ck_Qi G (fun r H1 => r = 0 ∧ ∃ F1, ck_W G ad N F1 H1 ∧ ck_M G ad V L nc nr a0 N F1 ∧ ck_sM F F1)) 0 0 (ck_A G) := by
  refine Met.ofW (cc := cX5_fails) (maxL := 2) (ret := (some .int)) (by decide) rfl ?_
  intro p e s m args below meth c s₁ B hml hv
  obtain ⟨rfl, hH, hKK⟩ := hv
  subst hH
  have hx := B.exec
  have hb := B.bytes
  have hr := B.returns
  have hts := atoms_spec (ws := wsX5_fails) B.pre
  have hown : s.vm.findClass RX5 = some m.cls := findClass_of_methodNamed B.named
  have hlocks := B.notSynchronized
  have hKK0 := hKK
  have hK := hKK.1.1
  have hS : va_S (ck_A G) s.heap s.heap [] := va_S.rf
  have hinX5 : ∀ w ∈ u_ws RX5 TX5 26, w ∈ wsX5_fails := by decide +kernel
  have hl := lv_entry ([.ref (ad 30), .int a0]) (n := 2) (Nat.le_of_ble_eq_true rfl)
  rw [lg_entry_eq]
  generalize (lg_sl ([.ref (ad 30), .int a0]) ++ List.replicate (2 - (lg_sl ([.ref (ad 30), .int a0])).length) Slot.unset).toArray = ls at hl ⊢
  have hl : lv_has ls 2 [(0, .ref (ad 30)), (1, .int a0)] := hl
  refine lv_aload_n hx hb dX5_fails_0 rfl (lv_at hl 0 rfl) ?_
  refine lv_iload_n hx hb dX5_fails_1 rfl (lv_at hl 1 rfl) ?_
  refine ck_put (v := .int a0) (ty := .int) hx hb hts hinX5 tyX5 tyX5_ok nmX5 hown hK hW hS (hM.n 30 (by decide) (by decide)) hM.f30 rfl 25 (by decide) (hts _ (List.mem_of_getElem? (i := 1) rfl)) rfl rfl (by decide +kernel) rfl rfl (Nat.le_of_ble_eq_true rfl) dX5_fails_2 (fun H locs hW hS hz2 => ?_)
  obtain ⟨F_2, hFe2, hFo2, hW⟩ := ck_name hW
  have hKK := hKK0.keep hS.2.1
  refine lv_iconst (v := 0) hx hb dX5_fails_5 (by decide) ?_
  exact W.iret (v := 0) hx hb hr (fun t ht hW9 => ⟨⟨_, rfl, by rw [ht]; exact ⟨rfl, F_2, hW, hM.set30 hFe2 hFo2 hM.nc hM.nr rfl rfl, ck_sM.rf.put (by decide) hFo2⟩⟩, hS.F ht⟩) hS.2.2 dX5_fails_6
def ck_I (V : Nat → Nat → Int32) (nc nr : Nat) : Prop :=
  (∀ k, k < nc → ck_rg 1000 (V 0 k) 99999999) ∧
  (∀ k, k < nc → ck_rg 0 (V 1 k) 999999) ∧
  (∀ k, k < nc → ck_rg 0 (V 2 k) 10000) ∧
  (∀ k, k < nc → ∃ b, b < 8 ∧ V 3 k = nI b) ∧
  (∀ k, k < nc → ck_rg 0 (V 4 k) 10000) ∧
  (∀ k, k < nc → ck_rg (-1) (V 5 k) 2000000) ∧
  (∀ k, k < nc → ck_rg 0 (V 6 k) 1000000) ∧
  (∀ k, k < nr → ck_rg 1 (V 7 k) 99999) ∧
  (∀ k, k < nr → ck_rg 0 (V 8 k) 999) ∧
  (∀ k, k < nr → ck_rg 0 (V 9 k) 10000) ∧
  (∀ k, k < nr → ck_rg 1 (V 10 k) 60) ∧
  (∀ k, k < nr → ck_rg 0 (V 11 k) 120) ∧
  (∀ k, k < nr → ck_rg 0 (V 12 k) 1000) ∧
  (∀ k, nc ≤ k → k < 60 → V 3 k = 0 ∧ V 4 k = 0 ∧ V 5 k = -1 ∧ V 6 k = 0)
theorem ck_I.num {V : Nat → Nat → Int32} {nc nr : Nat} (h : ck_I V nc nr) : ∀ k, k < nc → ck_rg 1000 (V 0 k) 99999999 := h.1
theorem ck_I.beg {V : Nat → Nat → Int32} {nc nr : Nat} (h : ck_I V nc nr) : ∀ k, k < nc → ck_rg 0 (V 1 k) 999999 := h.2.1
theorem ck_I.fst {V : Nat → Nat → Int32} {nc nr : Nat} (h : ck_I V nc nr) : ∀ k, k < nc → ck_rg 0 (V 2 k) 10000 := h.2.2.1
theorem ck_I.bits {V : Nat → Nat → Int32} {nc nr : Nat} (h : ck_I V nc nr) : ∀ k, k < nc → ∃ b, b < 8 ∧ V 3 k = nI b := h.2.2.2.1
theorem ck_I.len {V : Nat → Nat → Int32} {nc nr : Nat} (h : ck_I V nc nr) : ∀ k, k < nc → ck_rg 0 (V 4 k) 10000 := h.2.2.2.2.1
theorem ck_I.bk {V : Nat → Nat → Int32} {nc nr : Nat} (h : ck_I V nc nr) : ∀ k, k < nc → ck_rg (-1) (V 5 k) 2000000 := h.2.2.2.2.2.1
theorem ck_I.cl {V : Nat → Nat → Int32} {nc nr : Nat} (h : ck_I V nc nr) : ∀ k, k < nc → ck_rg 0 (V 6 k) 1000000 := h.2.2.2.2.2.2.1
theorem ck_I.rp {V : Nat → Nat → Int32} {nc nr : Nat} (h : ck_I V nc nr) : ∀ k, k < nr → ck_rg 1 (V 7 k) 99999 := h.2.2.2.2.2.2.2.1
theorem ck_I.rd {V : Nat → Nat → Int32} {nc nr : Nat} (h : ck_I V nc nr) : ∀ k, k < nr → ck_rg 0 (V 8 k) 999 := h.2.2.2.2.2.2.2.2.1
theorem ck_I.rpr {V : Nat → Nat → Int32} {nc nr : Nat} (h : ck_I V nc nr) : ∀ k, k < nr → ck_rg 0 (V 9 k) 10000 := h.2.2.2.2.2.2.2.2.2.1
theorem ck_I.rst {V : Nat → Nat → Int32} {nc nr : Nat} (h : ck_I V nc nr) : ∀ k, k < nr → ck_rg 1 (V 10 k) 60 := h.2.2.2.2.2.2.2.2.2.2.1
theorem ck_I.rl {V : Nat → Nat → Int32} {nc nr : Nat} (h : ck_I V nc nr) : ∀ k, k < nr → ck_rg 0 (V 11 k) 120 := h.2.2.2.2.2.2.2.2.2.2.2.1
theorem ck_I.rf {V : Nat → Nat → Int32} {nc nr : Nat} (h : ck_I V nc nr) : ∀ k, k < nr → ck_rg 0 (V 12 k) 1000 := h.2.2.2.2.2.2.2.2.2.2.2.2.1
theorem ck_I.fresh {V : Nat → Nat → Int32} {nc nr : Nat} (h : ck_I V nc nr) : ∀ k, nc ≤ k → k < 60 → V 3 k = 0 ∧ V 4 k = 0 ∧ V 5 k = -1 ∧ V 6 k = 0 := h.2.2.2.2.2.2.2.2.2.2.2.2.2
theorem ck_I.hp7 {V : Nat → Nat → Int32} {nc nr : Nat} (h : ck_I V nc nr) : ∀ k, k < nr → 0 ≤ (V 7 k).toInt := fun k hk => by have := (h.rp k hk).1; omega
theorem ck_I.hn0 {V : Nat → Nat → Int32} {nc nr : Nat} (h : ck_I V nc nr) : ∀ k, k < nc → ck_rg 0 (V 0 k) 99999999 := fun k hk => ⟨by have := (h.num k hk).1; omega, (h.num k hk).2⟩
theorem ck_I.hst {V : Nat → Nat → Int32} {nc nr : Nat} (h : ck_I V nc nr) : ∀ k, k < nr → 1 ≤ V 10 k := fun k hk => by rw [fa_le]; exact (h.rst k hk).1
theorem ck_isN_rg {x : Int32} (h : ck_isN x) : ck_rg 0 x 99999999 := by
  have h1 := (fa_le _ _).mp h.1
  have h2 := (fa_le _ _).mp h.2
  have e1 : (1000 : Int32).toInt = 1000 := rfl
  have e2 : (99999999 : Int32).toInt = 99999999 := rfl
  exact ⟨by omega, by omega⟩
theorem ck_isP_0 {x : Int32} (h : ck_isP x) : 0 ≤ x.toInt := by
  have h1 := (fa_le _ _).mp h.1
  have e1 : (1 : Int32).toInt = 1 := rfl
  omega
theorem ck_in_nI {x : Int32} {n : Nat} (h : 0 ≤ x) (h2 : x ≤ nI n) (hn : n < 2 ^ 31) : ∃ j, j ≤ n ∧ x = nI j := nI_of2 (nI_toInt hn) (Int32.not_lt.mpr h) h2
theorem ck_ok_ex {x : Int32} {n : Nat} (h : ck_ok x n) (hn : n < 2 ^ 31) : ∃ j, j < n ∧ x = nI j := ck_ok_of (Int32.not_lt.mpr h.1) (Int32.not_le.mpr h.2) hn
/-- what gaps answers: code and answer -/
def ck_Rgaps (cn lo hi : Nat → Int32) (a0 k r : Int32) : Prop := (¬ ck_ok a0 3 ∧ k = 1) ∨ (∃ q, q < 3 ∧ a0 = nI q ∧ k = 0 ∧ r = ck_miss (cn q) (lo q) (hi q))
def ck_Rdbl (db : Nat → Int32) (a0 k r : Int32) : Prop := (¬ ck_ok a0 3 ∧ k = 1) ∨ (∃ q, q < 3 ∧ a0 = nI q ∧ k = 0 ∧ r = db q)
theorem ck_ok_le {x : Int32} {n : Nat} (hn : n + 1 < 2 ^ 31) : (0 ≤ x ∧ x ≤ nI n) ↔ ck_ok x (n + 1) := by
  refine ⟨fun h => ⟨h.1, ?_⟩, fun h => ⟨h.1, ?_⟩⟩
  · obtain ⟨j, hj, rfl⟩ := ck_in_nI h.1 h.2 (by omega)
    exact nI_lt (by omega) hn
  · obtain ⟨j, hj, rfl⟩ := ck_ok_ex h hn
    exact nI_le (by omega) (by omega)
theorem ck_in3 {x : Int32} (h : 0 ≤ x ∧ x ≤ 2) : ∃ q, q < 3 ∧ x = nI q := ck_ok_ex ((ck_ok_le (n := 2) (by decide)).mp h) (by decide)
theorem ck_nin3 {x : Int32} (h : ¬ (0 ≤ x ∧ x ≤ 2)) : ¬ ck_ok x 3 := fun z => h ((ck_ok_le (n := 2) (by decide)).mpr z)
theorem ck_in4 {x : Int32} (h : 0 ≤ x ∧ x ≤ 3) : ∃ q, q < 4 ∧ x = nI q := ck_ok_ex ((ck_ok_le (n := 3) (by decide)).mp h) (by decide)
theorem ck_nin4 {x : Int32} (h : ¬ (0 ≤ x ∧ x ≤ 3)) : ¬ ck_ok x 4 := fun z => h ((ck_ok_le (n := 3) (by decide)).mpr z)
set_option maxHeartbeats 4000000 in
set_option maxRecDepth 100000 in
theorem ct_X5_gaps (l : Launch) (G : ck_G) (H : Heap) (ad : Nat → Nat) (N : Nat → Prop) (F : Nat → va_E) (hW : ck_W G ad N F H) (V : Nat → Nat → Int32) (L : Nat → Nat → Int64) (nc nr : Nat) (t : Int32) (hM : ck_M G ad V L nc nr t N F) (hI : ck_I V nc nr) (a0 : Int32) : Met l yX5_gaps wsX5_gaps ({ frames := 1, cells := 0, slots := 0, locals := 22 }) (ck_P G H [.ref (ad 30), .int a0]) (ck_Qi G (fun r H1 => ∃ t1 F1, ck_Rgaps (V 14) (V 18) (V 19) a0 t1 r ∧ ck_W G ad N F1 H1 ∧ ck_M G ad V L nc nr t1 N F1 ∧ ck_sM F F1)) 0 0 (ck_A G) := by
  refine Met.ofW (cc := cX5_gaps) (maxL := 2) (ret := (some .int)) (by decide) rfl ?_
  intro p e s m args below meth c s₁ B hml hv
  obtain ⟨rfl, hH, hKK⟩ := hv
  subst hH
  have hx := B.exec
  have hb := B.bytes
  have hr := B.returns
  have hts := atoms_spec (ws := wsX5_gaps) B.pre
  have hown : s.vm.findClass RX5 = some m.cls := findClass_of_methodNamed B.named
  have hlocks := B.notSynchronized
  have hKK0 := hKK
  have hK := hKK.1.1
  have hS : va_S (ck_A G) s.heap s.heap [] := va_S.rf
  have hinX5 : ∀ w ∈ u_ws RX5 TX5 26, w ∈ wsX5_gaps := by decide +kernel
  have hl := lv_entry ([.ref (ad 30), .int a0]) (n := 2) (Nat.le_of_ble_eq_true rfl)
  rw [lg_entry_eq]
  generalize (lg_sl ([.ref (ad 30), .int a0]) ++ List.replicate (2 - (lg_sl ([.ref (ad 30), .int a0])).length) Slot.unset).toArray = ls at hl ⊢
  have hl : lv_has ls 2 [(0, .ref (ad 30)), (1, .int a0)] := hl
  have hsm : ck_sM F F := ck_sM.rf
  have hp7 := hI.hp7
  have hn0 := hI.hn0
  have hst := hI.hst
  refine lv_aload_n hx hb dX5_gaps_0 rfl (lv_at hl 0 rfl) ?_
  refine lv_iload_n hx hb dX5_gaps_1 rfl (lv_at hl 1 rfl) ?_
  refine lv_iconst (v := 0) hx hb dX5_gaps_2 (by decide) ?_
  refine lv_iconst (v := 2) hx hb dX5_gaps_3 (by decide) ?_
  refine ck_cSi (As := [.int a0, .int 0, .int 2]) (rest := [.ref (ad 30)]) ⟨hx, hb, hml, hown, hts⟩ hKK (ct_X5_in l G s.heap a0 0 2) (va_cwS 3 hts gX5_gaps_X5_in rfl rfl rfl (by decide +kernel) ⟨Nat.le_of_ble_eq_true rfl, Nat.le_of_ble_eq_true rfl⟩) rfl hl rfl (Nat.le_of_ble_eq_true rfl) dX5_gaps_4 ⟨Nat.le_of_ble_eq_true rfl, Nat.le_of_ble_eq_true rfl⟩ (fun r_4 h_4 => ?_)
  rcases h_4 with ⟨h_4, rfl⟩ | ⟨h_4, rfl⟩
  · skip
    refine ck_cVw (As := [.int 1]) (rest := []) ⟨hx, hb, hml, hown, hts⟩ hKK (ct_X5_asks1 l G s.heap ad N F hW V L nc nr t hM) (cwV 1 hts gX5_gaps_X5_asks rfl rfl rfl (by decide +kernel) ⟨Nat.le_of_ble_eq_true rfl, Nat.le_of_ble_eq_true rfl⟩) (ck_recv hK hW (hM.n 30 (by decide) (by decide)) hM.f30 rfl) rfl hl rfl (Nat.le_of_ble_eq_true rfl) dX5_gaps_7 ⟨Nat.le_of_ble_eq_true rfl, Nat.le_of_ble_eq_true rfl⟩ hS (fun r_7 H locs h_7 hz_7 hS => ?_)
    have hKK := hKK0.keep hS.2.1
    obtain ⟨rfl, F_7, hW, hM, hs7⟩ := h_7
    have hsm := hsm.tr hs7
    refine lv_if_ne (tgt := 15) hx hb dX5_gaps_10 (by decide) (fun _ => ?_) (fun c_10 => absurd c_10 (by decide))
    obtain ⟨q, hq, rfl⟩ := ck_in3 h_4
    refine lv_aload_n hx hb dX5_gaps_15 rfl (lv_at hl 0 rfl) ?_
    refine ck_get (v := .ref (ad 32)) hx hb hts hinX5 hown hK hW (hM.n 30 (by decide) (by decide)) hM.f30 rfl 2 (by decide) (hts _ (List.mem_of_getElem? (i := 1) rfl)) rfl rfl dX5_gaps_16 ?_
    refine lv_iload_n hx hb dX5_gaps_19 rfl (lv_at hl 1 rfl) ?_
    refine ck_iald hx hb hK hW (hM.n 32 (by decide) (by decide)) hM.f32 q (rfl) (by omega) (by decide) dX5_gaps_20 ?_
    refine lv_if_ne (tgt := 28) hx hb dX5_gaps_21 (by decide) (fun c_21 => ?_) (fun c_21 => ?_)
    · skip
      refine lv_aload_n hx hb dX5_gaps_28 rfl (lv_at hl 0 rfl) ?_
      refine ck_get (v := .ref (ad 34)) hx hb hts hinX5 hown hK hW (hM.n 30 (by decide) (by decide)) hM.f30 rfl 4 (by decide) (hts _ (List.mem_of_getElem? (i := 2) rfl)) rfl rfl dX5_gaps_29 ?_
      refine lv_iload_n hx hb dX5_gaps_32 rfl (lv_at hl 1 rfl) ?_
      refine ck_iald hx hb hK hW (hM.n 34 (by decide) (by decide)) hM.f34 q (rfl) (by omega) (by decide) dX5_gaps_33 ?_
      refine lv_aload_n hx hb dX5_gaps_34 rfl (lv_at hl 0 rfl) ?_
      refine ck_get (v := .ref (ad 33)) hx hb hts hinX5 hown hK hW (hM.n 30 (by decide) (by decide)) hM.f30 rfl 3 (by decide) (hts _ (List.mem_of_getElem? (i := 3) rfl)) rfl rfl dX5_gaps_35 ?_
      refine lv_iload_n hx hb dX5_gaps_38 rfl (lv_at hl 1 rfl) ?_
      refine ck_iald hx hb hK hW (hM.n 33 (by decide) (by decide)) hM.f33 q (rfl) (by omega) (by decide) dX5_gaps_39 ?_
      refine lv_isub hx hb dX5_gaps_40 ?_
      refine lv_iconst (v := 1) hx hb dX5_gaps_41 (by decide) ?_
      refine lv_iadd hx hb dX5_gaps_42 ?_
      refine lv_aload_n hx hb dX5_gaps_43 rfl (lv_at hl 0 rfl) ?_
      refine ck_get (v := .ref (ad 32)) hx hb hts hinX5 hown hK hW (hM.n 30 (by decide) (by decide)) hM.f30 rfl 2 (by decide) (hts _ (List.mem_of_getElem? (i := 1) rfl)) rfl rfl dX5_gaps_44 ?_
      refine lv_iload_n hx hb dX5_gaps_47 rfl (lv_at hl 1 rfl) ?_
      refine ck_iald hx hb hK hW (hM.n 32 (by decide) (by decide)) hM.f32 q (rfl) (by omega) (by decide) dX5_gaps_48 ?_
      refine lv_isub hx hb dX5_gaps_49 ?_
      exact W.iret (v := (((((((((V 19)) q)) - ((((V 18)) q)))) + 1)) - ((((V 14)) q)))) hx hb hr (fun t ht hW9 => ⟨⟨_, rfl, by rw [ht]; exact ⟨_, F_7, Or.inr ⟨q, hq, rfl, rfl, by unfold ck_miss; rw [if_neg c_21]⟩, hW, hM, hsm⟩⟩, hS.F ht⟩) hS.2.2 dX5_gaps_50
    · skip
      refine lv_iconst (v := 0) hx hb dX5_gaps_24 (by decide) ?_
      refine lv_goto (tgt := 50) hx hb dX5_gaps_25 (by decide) ?_
      exact W.iret (v := 0) hx hb hr (fun t ht hW9 => ⟨⟨_, rfl, by rw [ht]; exact ⟨_, F_7, Or.inr ⟨q, hq, rfl, rfl, by unfold ck_miss; rw [if_pos c_21]⟩, hW, hM, hsm⟩⟩, hS.F ht⟩) hS.2.2 dX5_gaps_50
  · skip
    refine ck_cVw (As := [.int 0]) (rest := []) ⟨hx, hb, hml, hown, hts⟩ hKK (ct_X5_asks0 l G s.heap ad N F hW V L nc nr t hM) (cwV 1 hts gX5_gaps_X5_asks rfl rfl rfl (by decide +kernel) ⟨Nat.le_of_ble_eq_true rfl, Nat.le_of_ble_eq_true rfl⟩) (ck_recv hK hW (hM.n 30 (by decide) (by decide)) hM.f30 rfl) rfl hl rfl (Nat.le_of_ble_eq_true rfl) dX5_gaps_7 ⟨Nat.le_of_ble_eq_true rfl, Nat.le_of_ble_eq_true rfl⟩ hS (fun r_7 H locs h_7 hz_7 hS => ?_)
    have hKK := hKK0.keep hS.2.1
    obtain ⟨rfl, F_7, hW, hM, hs7⟩ := h_7
    have hsm := hsm.tr hs7
    refine lv_if_ne (tgt := 15) hx hb dX5_gaps_10 (by decide) (fun c_10 => absurd (by decide) c_10) (fun _ => ?_)
    refine lv_iconst (v := 0) hx hb dX5_gaps_13 (by decide) ?_
    exact W.iret (v := 0) hx hb hr (fun t ht hW9 => ⟨⟨_, rfl, by rw [ht]; exact ⟨_, F_7, Or.inl ⟨ck_nin3 h_4, rfl⟩, hW, hM, hsm⟩⟩, hS.F ht⟩) hS.2.2 dX5_gaps_14
set_option maxHeartbeats 4000000 in
set_option maxRecDepth 100000 in
theorem ct_X5_doubles (l : Launch) (G : ck_G) (H : Heap) (ad : Nat → Nat) (N : Nat → Prop) (F : Nat → va_E) (hW : ck_W G ad N F H) (V : Nat → Nat → Int32) (L : Nat → Nat → Int64) (nc nr : Nat) (t : Int32) (hM : ck_M G ad V L nc nr t N F) (hI : ck_I V nc nr) (a0 : Int32) : Met l yX5_doubles wsX5_doubles ({ frames := 1, cells := 0, slots := 0, locals := 22 }) (ck_P G H [.ref (ad 30), .int a0]) (ck_Qi G (fun r H1 => ∃ t1 F1, ck_Rdbl (V 15) a0 t1 r ∧ ck_W G ad N F1 H1 ∧ ck_M G ad V L nc nr t1 N F1 ∧ ck_sM F F1)) 0 0 (ck_A G) := by
  refine Met.ofW (cc := cX5_doubles) (maxL := 2) (ret := (some .int)) (by decide) rfl ?_
  intro p e s m args below meth c s₁ B hml hv
  obtain ⟨rfl, hH, hKK⟩ := hv
  subst hH
  have hx := B.exec
  have hb := B.bytes
  have hr := B.returns
  have hts := atoms_spec (ws := wsX5_doubles) B.pre
  have hown : s.vm.findClass RX5 = some m.cls := findClass_of_methodNamed B.named
  have hlocks := B.notSynchronized
  have hKK0 := hKK
  have hK := hKK.1.1
  have hS : va_S (ck_A G) s.heap s.heap [] := va_S.rf
  have hinX5 : ∀ w ∈ u_ws RX5 TX5 26, w ∈ wsX5_doubles := by decide +kernel
  have hl := lv_entry ([.ref (ad 30), .int a0]) (n := 2) (Nat.le_of_ble_eq_true rfl)
  rw [lg_entry_eq]
  generalize (lg_sl ([.ref (ad 30), .int a0]) ++ List.replicate (2 - (lg_sl ([.ref (ad 30), .int a0])).length) Slot.unset).toArray = ls at hl ⊢
  have hl : lv_has ls 2 [(0, .ref (ad 30)), (1, .int a0)] := hl
  have hsm : ck_sM F F := ck_sM.rf
  have hp7 := hI.hp7
  have hn0 := hI.hn0
  have hst := hI.hst
  refine lv_aload_n hx hb dX5_doubles_0 rfl (lv_at hl 0 rfl) ?_
  refine lv_iload_n hx hb dX5_doubles_1 rfl (lv_at hl 1 rfl) ?_
  refine lv_iconst (v := 0) hx hb dX5_doubles_2 (by decide) ?_
  refine lv_iconst (v := 2) hx hb dX5_doubles_3 (by decide) ?_
  refine ck_cSi (As := [.int a0, .int 0, .int 2]) (rest := [.ref (ad 30)]) ⟨hx, hb, hml, hown, hts⟩ hKK (ct_X5_in l G s.heap a0 0 2) (va_cwS 3 hts gX5_doubles_X5_in rfl rfl rfl (by decide +kernel) ⟨Nat.le_of_ble_eq_true rfl, Nat.le_of_ble_eq_true rfl⟩) rfl hl rfl (Nat.le_of_ble_eq_true rfl) dX5_doubles_4 ⟨Nat.le_of_ble_eq_true rfl, Nat.le_of_ble_eq_true rfl⟩ (fun r_4 h_4 => ?_)
  rcases h_4 with ⟨h_4, rfl⟩ | ⟨h_4, rfl⟩
  · skip
    refine ck_cVw (As := [.int 1]) (rest := []) ⟨hx, hb, hml, hown, hts⟩ hKK (ct_X5_asks1 l G s.heap ad N F hW V L nc nr t hM) (cwV 1 hts gX5_doubles_X5_asks rfl rfl rfl (by decide +kernel) ⟨Nat.le_of_ble_eq_true rfl, Nat.le_of_ble_eq_true rfl⟩) (ck_recv hK hW (hM.n 30 (by decide) (by decide)) hM.f30 rfl) rfl hl rfl (Nat.le_of_ble_eq_true rfl) dX5_doubles_7 ⟨Nat.le_of_ble_eq_true rfl, Nat.le_of_ble_eq_true rfl⟩ hS (fun r_7 H locs h_7 hz_7 hS => ?_)
    have hKK := hKK0.keep hS.2.1
    obtain ⟨rfl, F_7, hW, hM, hs7⟩ := h_7
    have hsm := hsm.tr hs7
    refine lv_if_eq (tgt := 22) hx hb dX5_doubles_10 (by decide) (fun c_10 => absurd c_10 (by decide)) (fun _ => ?_)
    obtain ⟨q, hq, rfl⟩ := ck_in3 h_4
    refine lv_aload_n hx hb dX5_doubles_13 rfl (lv_at hl 0 rfl) ?_
    refine ck_get (v := .ref (ad 35)) hx hb hts hinX5 hown hK hW (hM.n 30 (by decide) (by decide)) hM.f30 rfl 5 (by decide) (hts _ (List.mem_of_getElem? (i := 1) rfl)) rfl rfl dX5_doubles_14 ?_
    refine lv_iload_n hx hb dX5_doubles_17 rfl (lv_at hl 1 rfl) ?_
    refine ck_iald hx hb hK hW (hM.n 35 (by decide) (by decide)) hM.f35 q (rfl) (by omega) (by decide) dX5_doubles_18 ?_
    refine lv_goto (tgt := 23) hx hb dX5_doubles_19 (by decide) ?_
    exact W.iret (v := (((V 15)) q)) hx hb hr (fun t ht hW9 => ⟨⟨_, rfl, by rw [ht]; exact ⟨_, F_7, Or.inr ⟨q, hq, rfl, rfl, rfl⟩, hW, hM, hsm⟩⟩, hS.F ht⟩) hS.2.2 dX5_doubles_23
  · skip
    refine ck_cVw (As := [.int 0]) (rest := []) ⟨hx, hb, hml, hown, hts⟩ hKK (ct_X5_asks0 l G s.heap ad N F hW V L nc nr t hM) (cwV 1 hts gX5_doubles_X5_asks rfl rfl rfl (by decide +kernel) ⟨Nat.le_of_ble_eq_true rfl, Nat.le_of_ble_eq_true rfl⟩) (ck_recv hK hW (hM.n 30 (by decide) (by decide)) hM.f30 rfl) rfl hl rfl (Nat.le_of_ble_eq_true rfl) dX5_doubles_7 ⟨Nat.le_of_ble_eq_true rfl, Nat.le_of_ble_eq_true rfl⟩ hS (fun r_7 H locs h_7 hz_7 hS => ?_)
    have hKK := hKK0.keep hS.2.1
    obtain ⟨rfl, F_7, hW, hM, hs7⟩ := h_7
    have hsm := hsm.tr hs7
    refine lv_if_eq (tgt := 22) hx hb dX5_doubles_10 (by decide) (fun _ => ?_) (fun c_10 => absurd (by decide) c_10)
    refine lv_iconst (v := 0) hx hb dX5_doubles_22 (by decide) ?_
    exact W.iret (v := 0) hx hb hr (fun t ht hW9 => ⟨⟨_, rfl, by rw [ht]; exact ⟨_, F_7, Or.inl ⟨ck_nin3 h_4, rfl⟩, hW, hM, hsm⟩⟩, hS.F ht⟩) hS.2.2 dX5_doubles_23
set_option maxHeartbeats 4000000 in
set_option maxRecDepth 100000 in
theorem ct_X5_calls (l : Launch) (G : ck_G) (H : Heap) (ad : Nat → Nat) (N : Nat → Prop) (F : Nat → va_E) (hW : ck_W G ad N F H) (V : Nat → Nat → Int32) (L : Nat → Nat → Int64) (nc nr : Nat) (t : Int32) (hM : ck_M G ad V L nc nr t N F) (hI : ck_I V nc nr) : Met l yX5_calls wsX5_calls ({ frames := 0, cells := 0, slots := 0, locals := 0 }) (ck_P G H [.ref (ad 30)]) (ck_Qi G (fun r H1 => ∃ t1 F1, (t1 = 0 ∧ r = nI nc) ∧ ck_W G ad N F1 H1 ∧ ck_M G ad V L nc nr t1 N F1 ∧ ck_sM F F1)) 0 0 (ck_A G) := by
  refine Met.ofW (cc := cX5_calls) (maxL := 1) (ret := (some .int)) (by decide) rfl ?_
  intro p e s m args below meth c s₁ B hml hv
  obtain ⟨rfl, hH, hKK⟩ := hv
  subst hH
  have hx := B.exec
  have hb := B.bytes
  have hr := B.returns
  have hts := atoms_spec (ws := wsX5_calls) B.pre
  have hown : s.vm.findClass RX5 = some m.cls := findClass_of_methodNamed B.named
  have hlocks := B.notSynchronized
  have hKK0 := hKK
  have hK := hKK.1.1
  have hS : va_S (ck_A G) s.heap s.heap [] := va_S.rf
  have hinX5 : ∀ w ∈ u_ws RX5 TX5 26, w ∈ wsX5_calls := by decide +kernel
  have hl := lv_entry ([.ref (ad 30)]) (n := 1) (Nat.le_of_ble_eq_true rfl)
  rw [lg_entry_eq]
  generalize (lg_sl ([.ref (ad 30)]) ++ List.replicate (1 - (lg_sl ([.ref (ad 30)])).length) Slot.unset).toArray = ls at hl ⊢
  have hl : lv_has ls 1 [(0, .ref (ad 30))] := hl
  have hsm : ck_sM F F := ck_sM.rf
  have hp7 := hI.hp7
  have hn0 := hI.hn0
  have hst := hI.hst
  refine lv_aload_n hx hb dX5_calls_0 rfl (lv_at hl 0 rfl) ?_
  refine lv_iconst (v := 0) hx hb dX5_calls_1 (by decide) ?_
  refine ck_put (v := .int 0) (ty := .int) hx hb hts hinX5 tyX5 tyX5_ok nmX5 hown hK hW hS (hM.n 30 (by decide) (by decide)) hM.f30 rfl 25 (by decide) (hts _ (List.mem_of_getElem? (i := 1) rfl)) rfl rfl (by decide +kernel) rfl rfl (Nat.le_of_ble_eq_true rfl) dX5_calls_2 (fun H locs hW hS hz2 => ?_)
  obtain ⟨F_2, hFe2, hFo2, hW⟩ := ck_name hW
  have hM := hM.set30 hFe2 hFo2 hM.nc hM.nr rfl rfl
  have hsm := hsm.put (by decide) hFo2
  have hKK := hKK0.keep hS.2.1
  refine lv_aload_n hx hb dX5_calls_5 rfl (lv_at hl 0 rfl) ?_
  refine ck_get (v := .int (nI nc)) hx hb hts hinX5 hown hK hW (hM.n 30 (by decide) (by decide)) hM.f30 rfl 6 (by decide) (hts _ (List.mem_of_getElem? (i := 2) rfl)) rfl rfl dX5_calls_6 ?_
  exact W.iret (v := (nI nc)) hx hb hr (fun t ht hW9 => ⟨⟨_, rfl, by rw [ht]; exact ⟨_, F_2, ⟨rfl, rfl⟩, hW, hM, hsm⟩⟩, hS.F ht⟩) hS.2.2 dX5_calls_9
set_option maxHeartbeats 4000000 in
set_option maxRecDepth 100000 in
theorem ct_X5_corrections (l : Launch) (G : ck_G) (H : Heap) (ad : Nat → Nat) (N : Nat → Prop) (F : Nat → va_E) (hW : ck_W G ad N F H) (V : Nat → Nat → Int32) (L : Nat → Nat → Int64) (nc nr : Nat) (t : Int32) (hM : ck_M G ad V L nc nr t N F) (hI : ck_I V nc nr) : Met l yX5_corrections wsX5_corrections ({ frames := 0, cells := 0, slots := 0, locals := 0 }) (ck_P G H [.ref (ad 30)]) (ck_Qi G (fun r H1 => ∃ t1 F1, (t1 = 0 ∧ r = V 13 1) ∧ ck_W G ad N F1 H1 ∧ ck_M G ad V L nc nr t1 N F1 ∧ ck_sM F F1)) 0 0 (ck_A G) := by
  refine Met.ofW (cc := cX5_corrections) (maxL := 1) (ret := (some .int)) (by decide) rfl ?_
  intro p e s m args below meth c s₁ B hml hv
  obtain ⟨rfl, hH, hKK⟩ := hv
  subst hH
  have hx := B.exec
  have hb := B.bytes
  have hr := B.returns
  have hts := atoms_spec (ws := wsX5_corrections) B.pre
  have hown : s.vm.findClass RX5 = some m.cls := findClass_of_methodNamed B.named
  have hlocks := B.notSynchronized
  have hKK0 := hKK
  have hK := hKK.1.1
  have hS : va_S (ck_A G) s.heap s.heap [] := va_S.rf
  have hinX5 : ∀ w ∈ u_ws RX5 TX5 26, w ∈ wsX5_corrections := by decide +kernel
  have hl := lv_entry ([.ref (ad 30)]) (n := 1) (Nat.le_of_ble_eq_true rfl)
  rw [lg_entry_eq]
  generalize (lg_sl ([.ref (ad 30)]) ++ List.replicate (1 - (lg_sl ([.ref (ad 30)])).length) Slot.unset).toArray = ls at hl ⊢
  have hl : lv_has ls 1 [(0, .ref (ad 30))] := hl
  have hsm : ck_sM F F := ck_sM.rf
  have hp7 := hI.hp7
  have hn0 := hI.hn0
  have hst := hI.hst
  refine lv_aload_n hx hb dX5_corrections_0 rfl (lv_at hl 0 rfl) ?_
  refine lv_iconst (v := 0) hx hb dX5_corrections_1 (by decide) ?_
  refine ck_put (v := .int 0) (ty := .int) hx hb hts hinX5 tyX5 tyX5_ok nmX5 hown hK hW hS (hM.n 30 (by decide) (by decide)) hM.f30 rfl 25 (by decide) (hts _ (List.mem_of_getElem? (i := 1) rfl)) rfl rfl (by decide +kernel) rfl rfl (Nat.le_of_ble_eq_true rfl) dX5_corrections_2 (fun H locs hW hS hz2 => ?_)
  obtain ⟨F_2, hFe2, hFo2, hW⟩ := ck_name hW
  have hM := hM.set30 hFe2 hFo2 hM.nc hM.nr rfl rfl
  have hsm := hsm.put (by decide) hFo2
  have hKK := hKK0.keep hS.2.1
  refine lv_aload_n hx hb dX5_corrections_5 rfl (lv_at hl 0 rfl) ?_
  refine ck_get (v := .int (V 13 1)) hx hb hts hinX5 hown hK hW (hM.n 30 (by decide) (by decide)) hM.f30 rfl 14 (by decide) (hts _ (List.mem_of_getElem? (i := 2) rfl)) rfl rfl dX5_corrections_6 ?_
  exact W.iret (v := (V 13 1)) hx hb hr (fun t ht hW9 => ⟨⟨_, rfl, by rw [ht]; exact ⟨_, F_2, ⟨rfl, rfl⟩, hW, hM, hsm⟩⟩, hS.F ht⟩) hS.2.2 dX5_corrections_9
def ck_Rcall (nc : Nat) (f : Nat → Int32) (a0 k r : Int32) : Prop := (¬ ck_ok a0 nc ∧ k = 1) ∨ (∃ j, j < nc ∧ a0 = nI j ∧ k = 0 ∧ r = f j)
/-- a call's number, or refused with 1; then an answer that may be wanting: refused with 2 -/
def ck_Rcall2 (nc : Nat) (f : Nat → Int32) (a0 k r : Int32) : Prop := (¬ ck_ok a0 nc ∧ k = 1) ∨ (∃ j, j < nc ∧ a0 = nI j ∧ ((f j = -1 ∧ k = 2) ∨ (¬ f j = -1 ∧ k = 0 ∧ r = f j)))
set_option maxHeartbeats 4000000 in
set_option maxRecDepth 100000 in
theorem ct_X5_legs (l : Launch) (G : ck_G) (H : Heap) (ad : Nat → Nat) (N : Nat → Prop) (F : Nat → va_E) (hW : ck_W G ad N F H) (V : Nat → Nat → Int32) (L : Nat → Nat → Int64) (nc nr : Nat) (t : Int32) (hM : ck_M G ad V L nc nr t N F) (hI : ck_I V nc nr) (a0 : Int32) : Met l yX5_legs wsX5_legs ({ frames := 1, cells := 0, slots := 0, locals := 21 }) (ck_P G H [.ref (ad 30), .int a0]) (ck_Qi G (fun r H1 => ∃ t1 F1, ck_Rcall nc (V 3) a0 t1 r ∧ ck_W G ad N F1 H1 ∧ ck_M G ad V L nc nr t1 N F1 ∧ ck_sM F F1)) 0 0 (ck_A G) := by
  refine Met.ofW (cc := cX5_legs) (maxL := 2) (ret := (some .int)) (by decide) rfl ?_
  intro p e s m args below meth c s₁ B hml hv
  obtain ⟨rfl, hH, hKK⟩ := hv
  subst hH
  have hx := B.exec
  have hb := B.bytes
  have hr := B.returns
  have hts := atoms_spec (ws := wsX5_legs) B.pre
  have hown : s.vm.findClass RX5 = some m.cls := findClass_of_methodNamed B.named
  have hlocks := B.notSynchronized
  have hKK0 := hKK
  have hK := hKK.1.1
  have hS : va_S (ck_A G) s.heap s.heap [] := va_S.rf
  have hinX5 : ∀ w ∈ u_ws RX5 TX5 26, w ∈ wsX5_legs := by decide +kernel
  have hl := lv_entry ([.ref (ad 30), .int a0]) (n := 2) (Nat.le_of_ble_eq_true rfl)
  rw [lg_entry_eq]
  generalize (lg_sl ([.ref (ad 30), .int a0]) ++ List.replicate (2 - (lg_sl ([.ref (ad 30), .int a0])).length) Slot.unset).toArray = ls at hl ⊢
  have hl : lv_has ls 2 [(0, .ref (ad 30)), (1, .int a0)] := hl
  have hsm : ck_sM F F := ck_sM.rf
  have hp7 := hI.hp7
  have hn0 := hI.hn0
  have hst := hI.hst
  refine lv_aload_n hx hb dX5_legs_0 rfl (lv_at hl 0 rfl) ?_
  refine lv_aload_n hx hb dX5_legs_1 rfl (lv_at hl 0 rfl) ?_
  refine lv_iload_n hx hb dX5_legs_2 rfl (lv_at hl 1 rfl) ?_
  refine ck_cVi (As := [.int a0]) (rest := [.ref (ad 30)]) ⟨hx, hb, hml, hown, hts⟩ hKK (ct_X5_isCall l G s.heap ad N F hW V L nc nr t hM a0) (cwV 1 hts gX5_legs_X5_isCall rfl rfl rfl (by decide +kernel) ⟨Nat.le_of_ble_eq_true rfl, Nat.le_of_ble_eq_true rfl⟩) (ck_recv hK hW (hM.n 30 (by decide) (by decide)) hM.f30 rfl) rfl hl rfl (Nat.le_of_ble_eq_true rfl) dX5_legs_3 ⟨Nat.le_of_ble_eq_true rfl, Nat.le_of_ble_eq_true rfl⟩ (fun r_3 h_3 => ?_)
  rcases h_3 with ⟨h_3, rfl⟩ | ⟨h_3, rfl⟩
  · skip
    refine ck_cVw (As := [.int 1]) (rest := []) ⟨hx, hb, hml, hown, hts⟩ hKK (ct_X5_asks1 l G s.heap ad N F hW V L nc nr t hM) (cwV 1 hts gX5_legs_X5_asks rfl rfl rfl (by decide +kernel) ⟨Nat.le_of_ble_eq_true rfl, Nat.le_of_ble_eq_true rfl⟩) (ck_recv hK hW (hM.n 30 (by decide) (by decide)) hM.f30 rfl) rfl hl rfl (Nat.le_of_ble_eq_true rfl) dX5_legs_6 ⟨Nat.le_of_ble_eq_true rfl, Nat.le_of_ble_eq_true rfl⟩ hS (fun r_6 H locs h_6 hz_6 hS => ?_)
    have hKK := hKK0.keep hS.2.1
    obtain ⟨rfl, F_6, hW, hM, hs6⟩ := h_6
    have hsm := hsm.tr hs6
    refine lv_if_eq (tgt := 21) hx hb dX5_legs_9 (by decide) (fun c_9 => absurd c_9 (by decide)) (fun _ => ?_)
    obtain ⟨q, hq, rfl⟩ := ck_ok_ex h_3 (by have := hM.nc; omega)
    refine lv_aload_n hx hb dX5_legs_12 rfl (lv_at hl 0 rfl) ?_
    refine ck_get (v := .ref (ad 40)) hx hb hts hinX5 hown hK hW (hM.n 30 (by decide) (by decide)) hM.f30 rfl 11 (by decide) (hts _ (List.mem_of_getElem? (i := 1) rfl)) rfl rfl dX5_legs_13 ?_
    refine lv_iload_n hx hb dX5_legs_16 rfl (lv_at hl 1 rfl) ?_
    refine ck_iald hx hb hK hW (hM.n 40 (by decide) (by decide)) hM.f40 q (rfl) (by have := hM.nc; omega) (by decide) dX5_legs_17 ?_
    refine lv_goto (tgt := 22) hx hb dX5_legs_18 (by decide) ?_
    exact W.iret (v := (((V 3)) q)) hx hb hr (fun t ht hW9 => ⟨⟨_, rfl, by rw [ht]; exact ⟨_, F_6, Or.inr ⟨q, hq, rfl, rfl, rfl⟩, hW, hM, hsm⟩⟩, hS.F ht⟩) hS.2.2 dX5_legs_22
  · skip
    refine ck_cVw (As := [.int 0]) (rest := []) ⟨hx, hb, hml, hown, hts⟩ hKK (ct_X5_asks0 l G s.heap ad N F hW V L nc nr t hM) (cwV 1 hts gX5_legs_X5_asks rfl rfl rfl (by decide +kernel) ⟨Nat.le_of_ble_eq_true rfl, Nat.le_of_ble_eq_true rfl⟩) (ck_recv hK hW (hM.n 30 (by decide) (by decide)) hM.f30 rfl) rfl hl rfl (Nat.le_of_ble_eq_true rfl) dX5_legs_6 ⟨Nat.le_of_ble_eq_true rfl, Nat.le_of_ble_eq_true rfl⟩ hS (fun r_6 H locs h_6 hz_6 hS => ?_)
    have hKK := hKK0.keep hS.2.1
    obtain ⟨rfl, F_6, hW, hM, hs6⟩ := h_6
    have hsm := hsm.tr hs6
    refine lv_if_eq (tgt := 21) hx hb dX5_legs_9 (by decide) (fun _ => ?_) (fun c_9 => absurd (by decide) c_9)
    refine lv_iconst (v := 0) hx hb dX5_legs_21 (by decide) ?_
    exact W.iret (v := 0) hx hb hr (fun t ht hW9 => ⟨⟨_, rfl, by rw [ht]; exact ⟨_, F_6, Or.inl ⟨h_3, rfl⟩, hW, hM, hsm⟩⟩, hS.F ht⟩) hS.2.2 dX5_legs_22
set_option maxHeartbeats 4000000 in
set_option maxRecDepth 100000 in
theorem ct_X5_length (l : Launch) (G : ck_G) (H : Heap) (ad : Nat → Nat) (N : Nat → Prop) (F : Nat → va_E) (hW : ck_W G ad N F H) (V : Nat → Nat → Int32) (L : Nat → Nat → Int64) (nc nr : Nat) (t : Int32) (hM : ck_M G ad V L nc nr t N F) (hI : ck_I V nc nr) (a0 : Int32) : Met l yX5_length wsX5_length ({ frames := 1, cells := 0, slots := 0, locals := 21 }) (ck_P G H [.ref (ad 30), .int a0]) (ck_Qi G (fun r H1 => ∃ t1 F1, ck_Rcall nc (V 4) a0 t1 r ∧ ck_W G ad N F1 H1 ∧ ck_M G ad V L nc nr t1 N F1 ∧ ck_sM F F1)) 0 0 (ck_A G) := by
  refine Met.ofW (cc := cX5_length) (maxL := 2) (ret := (some .int)) (by decide) rfl ?_
  intro p e s m args below meth c s₁ B hml hv
  obtain ⟨rfl, hH, hKK⟩ := hv
  subst hH
  have hx := B.exec
  have hb := B.bytes
  have hr := B.returns
  have hts := atoms_spec (ws := wsX5_length) B.pre
  have hown : s.vm.findClass RX5 = some m.cls := findClass_of_methodNamed B.named
  have hlocks := B.notSynchronized
  have hKK0 := hKK
  have hK := hKK.1.1
  have hS : va_S (ck_A G) s.heap s.heap [] := va_S.rf
  have hinX5 : ∀ w ∈ u_ws RX5 TX5 26, w ∈ wsX5_length := by decide +kernel
  have hl := lv_entry ([.ref (ad 30), .int a0]) (n := 2) (Nat.le_of_ble_eq_true rfl)
  rw [lg_entry_eq]
  generalize (lg_sl ([.ref (ad 30), .int a0]) ++ List.replicate (2 - (lg_sl ([.ref (ad 30), .int a0])).length) Slot.unset).toArray = ls at hl ⊢
  have hl : lv_has ls 2 [(0, .ref (ad 30)), (1, .int a0)] := hl
  have hsm : ck_sM F F := ck_sM.rf
  have hp7 := hI.hp7
  have hn0 := hI.hn0
  have hst := hI.hst
  refine lv_aload_n hx hb dX5_length_0 rfl (lv_at hl 0 rfl) ?_
  refine lv_aload_n hx hb dX5_length_1 rfl (lv_at hl 0 rfl) ?_
  refine lv_iload_n hx hb dX5_length_2 rfl (lv_at hl 1 rfl) ?_
  refine ck_cVi (As := [.int a0]) (rest := [.ref (ad 30)]) ⟨hx, hb, hml, hown, hts⟩ hKK (ct_X5_isCall l G s.heap ad N F hW V L nc nr t hM a0) (cwV 1 hts gX5_length_X5_isCall rfl rfl rfl (by decide +kernel) ⟨Nat.le_of_ble_eq_true rfl, Nat.le_of_ble_eq_true rfl⟩) (ck_recv hK hW (hM.n 30 (by decide) (by decide)) hM.f30 rfl) rfl hl rfl (Nat.le_of_ble_eq_true rfl) dX5_length_3 ⟨Nat.le_of_ble_eq_true rfl, Nat.le_of_ble_eq_true rfl⟩ (fun r_3 h_3 => ?_)
  rcases h_3 with ⟨h_3, rfl⟩ | ⟨h_3, rfl⟩
  · skip
    refine ck_cVw (As := [.int 1]) (rest := []) ⟨hx, hb, hml, hown, hts⟩ hKK (ct_X5_asks1 l G s.heap ad N F hW V L nc nr t hM) (cwV 1 hts gX5_length_X5_asks rfl rfl rfl (by decide +kernel) ⟨Nat.le_of_ble_eq_true rfl, Nat.le_of_ble_eq_true rfl⟩) (ck_recv hK hW (hM.n 30 (by decide) (by decide)) hM.f30 rfl) rfl hl rfl (Nat.le_of_ble_eq_true rfl) dX5_length_6 ⟨Nat.le_of_ble_eq_true rfl, Nat.le_of_ble_eq_true rfl⟩ hS (fun r_6 H locs h_6 hz_6 hS => ?_)
    have hKK := hKK0.keep hS.2.1
    obtain ⟨rfl, F_6, hW, hM, hs6⟩ := h_6
    have hsm := hsm.tr hs6
    refine lv_if_eq (tgt := 21) hx hb dX5_length_9 (by decide) (fun c_9 => absurd c_9 (by decide)) (fun _ => ?_)
    obtain ⟨q, hq, rfl⟩ := ck_ok_ex h_3 (by have := hM.nc; omega)
    refine lv_aload_n hx hb dX5_length_12 rfl (lv_at hl 0 rfl) ?_
    refine ck_get (v := .ref (ad 39)) hx hb hts hinX5 hown hK hW (hM.n 30 (by decide) (by decide)) hM.f30 rfl 10 (by decide) (hts _ (List.mem_of_getElem? (i := 1) rfl)) rfl rfl dX5_length_13 ?_
    refine lv_iload_n hx hb dX5_length_16 rfl (lv_at hl 1 rfl) ?_
    refine ck_iald hx hb hK hW (hM.n 39 (by decide) (by decide)) hM.f39 q (rfl) (by have := hM.nc; omega) (by decide) dX5_length_17 ?_
    refine lv_goto (tgt := 22) hx hb dX5_length_18 (by decide) ?_
    exact W.iret (v := (((V 4)) q)) hx hb hr (fun t ht hW9 => ⟨⟨_, rfl, by rw [ht]; exact ⟨_, F_6, Or.inr ⟨q, hq, rfl, rfl, rfl⟩, hW, hM, hsm⟩⟩, hS.F ht⟩) hS.2.2 dX5_length_22
  · skip
    refine ck_cVw (As := [.int 0]) (rest := []) ⟨hx, hb, hml, hown, hts⟩ hKK (ct_X5_asks0 l G s.heap ad N F hW V L nc nr t hM) (cwV 1 hts gX5_length_X5_asks rfl rfl rfl (by decide +kernel) ⟨Nat.le_of_ble_eq_true rfl, Nat.le_of_ble_eq_true rfl⟩) (ck_recv hK hW (hM.n 30 (by decide) (by decide)) hM.f30 rfl) rfl hl rfl (Nat.le_of_ble_eq_true rfl) dX5_length_6 ⟨Nat.le_of_ble_eq_true rfl, Nat.le_of_ble_eq_true rfl⟩ hS (fun r_6 H locs h_6 hz_6 hS => ?_)
    have hKK := hKK0.keep hS.2.1
    obtain ⟨rfl, F_6, hW, hM, hs6⟩ := h_6
    have hsm := hsm.tr hs6
    refine lv_if_eq (tgt := 21) hx hb dX5_length_9 (by decide) (fun _ => ?_) (fun c_9 => absurd (by decide) c_9)
    refine lv_iconst (v := 0) hx hb dX5_length_21 (by decide) ?_
    exact W.iret (v := 0) hx hb hr (fun t ht hW9 => ⟨⟨_, rfl, by rw [ht]; exact ⟨_, F_6, Or.inl ⟨h_3, rfl⟩, hW, hM, hsm⟩⟩, hS.F ht⟩) hS.2.2 dX5_length_22
set_option maxHeartbeats 4000000 in
set_option maxRecDepth 100000 in
theorem ct_X5_charge (l : Launch) (G : ck_G) (H : Heap) (ad : Nat → Nat) (N : Nat → Prop) (F : Nat → va_E) (hW : ck_W G ad N F H) (V : Nat → Nat → Int32) (L : Nat → Nat → Int64) (nc nr : Nat) (t : Int32) (hM : ck_M G ad V L nc nr t N F) (hI : ck_I V nc nr) (a0 : Int32) : Met l yX5_charge wsX5_charge ({ frames := 3, cells := 0, slots := 0, locals := 71 }) (ck_P G H [.ref (ad 30), .int a0]) (ck_Qi G (fun r H1 => ∃ t1 F1, ck_Rcall2 nc (ck_now V nr) a0 t1 r ∧ ck_W G ad N F1 H1 ∧ ck_M G ad V L nc nr t1 N F1 ∧ ck_sM F F1)) 0 0 (ck_A G) := by
  refine Met.ofW (cc := cX5_charge) (maxL := 3) (ret := (some .int)) (by decide) rfl ?_
  intro p e s m args below meth c s₁ B hml hv
  obtain ⟨rfl, hH, hKK⟩ := hv
  subst hH
  have hx := B.exec
  have hb := B.bytes
  have hr := B.returns
  have hts := atoms_spec (ws := wsX5_charge) B.pre
  have hown : s.vm.findClass RX5 = some m.cls := findClass_of_methodNamed B.named
  have hlocks := B.notSynchronized
  have hKK0 := hKK
  have hK := hKK.1.1
  have hS : va_S (ck_A G) s.heap s.heap [] := va_S.rf
  have hl := lv_entry ([.ref (ad 30), .int a0]) (n := 3) (Nat.le_of_ble_eq_true rfl)
  rw [lg_entry_eq]
  generalize (lg_sl ([.ref (ad 30), .int a0]) ++ List.replicate (3 - (lg_sl ([.ref (ad 30), .int a0])).length) Slot.unset).toArray = ls at hl ⊢
  have hl : lv_has ls 3 [(0, .ref (ad 30)), (1, .int a0)] := hl
  have hsm : ck_sM F F := ck_sM.rf
  have hp7 := hI.hp7
  have hn0 := hI.hn0
  have hst := hI.hst
  refine lv_aload_n hx hb dX5_charge_0 rfl (lv_at hl 0 rfl) ?_
  refine lv_aload_n hx hb dX5_charge_1 rfl (lv_at hl 0 rfl) ?_
  refine lv_iload_n hx hb dX5_charge_2 rfl (lv_at hl 1 rfl) ?_
  refine ck_cVi (As := [.int a0]) (rest := [.ref (ad 30)]) ⟨hx, hb, hml, hown, hts⟩ hKK (ct_X5_isCall l G s.heap ad N F hW V L nc nr t hM a0) (cwV 1 hts gX5_charge_X5_isCall rfl rfl rfl (by decide +kernel) ⟨Nat.le_of_ble_eq_true rfl, Nat.le_of_ble_eq_true rfl⟩) (ck_recv hK hW (hM.n 30 (by decide) (by decide)) hM.f30 rfl) rfl hl rfl (Nat.le_of_ble_eq_true rfl) dX5_charge_3 ⟨Nat.le_of_ble_eq_true rfl, Nat.le_of_ble_eq_true rfl⟩ (fun r_3 h_3 => ?_)
  rcases h_3 with ⟨h_3, rfl⟩ | ⟨h_3, rfl⟩
  · skip
    refine ck_cVw (As := [.int 1]) (rest := []) ⟨hx, hb, hml, hown, hts⟩ hKK (ct_X5_asks1 l G s.heap ad N F hW V L nc nr t hM) (cwV 1 hts gX5_charge_X5_asks rfl rfl rfl (by decide +kernel) ⟨Nat.le_of_ble_eq_true rfl, Nat.le_of_ble_eq_true rfl⟩) (ck_recv hK hW (hM.n 30 (by decide) (by decide)) hM.f30 rfl) rfl hl rfl (Nat.le_of_ble_eq_true rfl) dX5_charge_6 ⟨Nat.le_of_ble_eq_true rfl, Nat.le_of_ble_eq_true rfl⟩ hS (fun r_6 H locs h_6 hz_6 hS => ?_)
    have hKK := hKK0.keep hS.2.1
    obtain ⟨rfl, F_6, hW, hM, hs6⟩ := h_6
    have hsm := hsm.tr hs6
    refine lv_if_ne (tgt := 14) hx hb dX5_charge_9 (by decide) (fun _ => ?_) (fun c_9 => absurd c_9 (by decide))
    obtain ⟨q, hq, rfl⟩ := ck_ok_ex h_3 (by have := hM.nc; omega)
    refine lv_aload_n hx hb dX5_charge_14 rfl (lv_at hl 0 rfl) ?_
    refine lv_iload_n hx hb dX5_charge_15 rfl (lv_at hl 1 rfl) ?_
    refine ck_cVi (As := [.int (nI q)]) (rest := []) ⟨hx, hb, hml, hown, hts⟩ hKK (ct_X5_chargeOf l G H ad N F_6 hW V L nc nr 0 hM q (hq) hp7 (hn0 q (hq)) hst) (cwV 1 hts gX5_charge_X5_chargeOf rfl rfl rfl (by decide +kernel) ⟨Nat.le_of_ble_eq_true rfl, Nat.le_of_ble_eq_true rfl⟩) (ck_recv hK hW (hM.n 30 (by decide) (by decide)) hM.f30 rfl) rfl hl rfl (Nat.le_of_ble_eq_true rfl) dX5_charge_16 ⟨Nat.le_of_ble_eq_true rfl, Nat.le_of_ble_eq_true rfl⟩ (fun r_16 h_16 => ?_)
    subst h_16
    refine lv_istore_n (lv' := [(2, .int (ck_now V nr q)), (0, .ref (ad 30)), (1, .int (nI q))]) hx hb dX5_charge_19 rfl hl (by decide) rfl (fun ls hl => ?_)
    refine lv_iload_n hx hb dX5_charge_20 rfl (lv_at hl 0 rfl) ?_
    refine lv_iconst (v := (-1)) hx hb dX5_charge_21 (by decide) ?_
    refine lv_icmp_ne (tgt := 33) hx hb dX5_charge_22 (by decide) (fun c_22 => ?_) (fun c_22 => ?_)
    · skip
      refine lv_iload_n hx hb dX5_charge_33 rfl (lv_at hl 0 rfl) ?_
      exact W.iret (v := (ck_now V nr q)) hx hb hr (fun t ht hW9 => ⟨⟨_, rfl, by rw [ht]; exact ⟨_, F_6, Or.inr ⟨q, hq, rfl, Or.inr ⟨c_22, rfl, rfl⟩⟩, hW, hM, hsm⟩⟩, hS.F ht⟩) hS.2.2 dX5_charge_34
    · skip
      refine lv_aload_n hx hb dX5_charge_25 rfl (lv_at hl 1 rfl) ?_
      refine lv_iconst (v := 2) hx hb dX5_charge_26 (by decide) ?_
      refine ck_cVw (As := [.int 2]) (rest := []) ⟨hx, hb, hml, hown, hts⟩ hKK (ct_X5_fails l G H ad N F_6 hW V L nc nr 0 hM 2) (cwV 1 hts gX5_charge_X5_fails rfl rfl rfl (by decide +kernel) ⟨Nat.le_of_ble_eq_true rfl, Nat.le_of_ble_eq_true rfl⟩) (ck_recv hK hW (hM.n 30 (by decide) (by decide)) hM.f30 rfl) rfl hl rfl (Nat.le_of_ble_eq_true rfl) dX5_charge_27 ⟨Nat.le_of_ble_eq_true rfl, Nat.le_of_ble_eq_true rfl⟩ hS (fun r_27 H locs h_27 hz_27 hS => ?_)
      have hKK := hKK0.keep hS.2.1
      obtain ⟨rfl, F_27, hW, hM, hs27⟩ := h_27
      have hsm := hsm.tr hs27
      refine lv_goto (tgt := 34) hx hb dX5_charge_30 (by decide) ?_
      exact W.iret (v := 0) hx hb hr (fun t ht hW9 => ⟨⟨_, rfl, by rw [ht]; exact ⟨_, F_27, Or.inr ⟨q, hq, rfl, Or.inl ⟨c_22, rfl⟩⟩, hW, hM, hsm⟩⟩, hS.F ht⟩) hS.2.2 dX5_charge_34
  · skip
    refine ck_cVw (As := [.int 0]) (rest := []) ⟨hx, hb, hml, hown, hts⟩ hKK (ct_X5_asks0 l G s.heap ad N F hW V L nc nr t hM) (cwV 1 hts gX5_charge_X5_asks rfl rfl rfl (by decide +kernel) ⟨Nat.le_of_ble_eq_true rfl, Nat.le_of_ble_eq_true rfl⟩) (ck_recv hK hW (hM.n 30 (by decide) (by decide)) hM.f30 rfl) rfl hl rfl (Nat.le_of_ble_eq_true rfl) dX5_charge_6 ⟨Nat.le_of_ble_eq_true rfl, Nat.le_of_ble_eq_true rfl⟩ hS (fun r_6 H locs h_6 hz_6 hS => ?_)
    have hKK := hKK0.keep hS.2.1
    obtain ⟨rfl, F_6, hW, hM, hs6⟩ := h_6
    have hsm := hsm.tr hs6
    refine lv_if_ne (tgt := 14) hx hb dX5_charge_9 (by decide) (fun c_9 => absurd (by decide) c_9) (fun _ => ?_)
    refine lv_iconst (v := 0) hx hb dX5_charge_12 (by decide) ?_
    exact W.iret (v := 0) hx hb hr (fun t ht hW9 => ⟨⟨_, rfl, by rw [ht]; exact ⟨_, F_6, Or.inl ⟨h_3, rfl⟩, hW, hM, hsm⟩⟩, hS.F ht⟩) hS.2.2 dX5_charge_13
set_option maxHeartbeats 4000000 in
set_option maxRecDepth 100000 in
theorem ct_X5_booked (l : Launch) (G : ck_G) (H : Heap) (ad : Nat → Nat) (N : Nat → Prop) (F : Nat → va_E) (hW : ck_W G ad N F H) (V : Nat → Nat → Int32) (L : Nat → Nat → Int64) (nc nr : Nat) (t : Int32) (hM : ck_M G ad V L nc nr t N F) (hI : ck_I V nc nr) (a0 : Int32) : Met l yX5_booked wsX5_booked ({ frames := 1, cells := 0, slots := 0, locals := 21 }) (ck_P G H [.ref (ad 30), .int a0]) (ck_Qi G (fun r H1 => ∃ t1 F1, ck_Rcall2 nc (V 5) a0 t1 r ∧ ck_W G ad N F1 H1 ∧ ck_M G ad V L nc nr t1 N F1 ∧ ck_sM F F1)) 0 0 (ck_A G) := by
  refine Met.ofW (cc := cX5_booked) (maxL := 2) (ret := (some .int)) (by decide) rfl ?_
  intro p e s m args below meth c s₁ B hml hv
  obtain ⟨rfl, hH, hKK⟩ := hv
  subst hH
  have hx := B.exec
  have hb := B.bytes
  have hr := B.returns
  have hts := atoms_spec (ws := wsX5_booked) B.pre
  have hown : s.vm.findClass RX5 = some m.cls := findClass_of_methodNamed B.named
  have hlocks := B.notSynchronized
  have hKK0 := hKK
  have hK := hKK.1.1
  have hS : va_S (ck_A G) s.heap s.heap [] := va_S.rf
  have hinX5 : ∀ w ∈ u_ws RX5 TX5 26, w ∈ wsX5_booked := by decide +kernel
  have hl := lv_entry ([.ref (ad 30), .int a0]) (n := 2) (Nat.le_of_ble_eq_true rfl)
  rw [lg_entry_eq]
  generalize (lg_sl ([.ref (ad 30), .int a0]) ++ List.replicate (2 - (lg_sl ([.ref (ad 30), .int a0])).length) Slot.unset).toArray = ls at hl ⊢
  have hl : lv_has ls 2 [(0, .ref (ad 30)), (1, .int a0)] := hl
  have hsm : ck_sM F F := ck_sM.rf
  have hp7 := hI.hp7
  have hn0 := hI.hn0
  have hst := hI.hst
  refine lv_aload_n hx hb dX5_booked_0 rfl (lv_at hl 0 rfl) ?_
  refine lv_aload_n hx hb dX5_booked_1 rfl (lv_at hl 0 rfl) ?_
  refine lv_iload_n hx hb dX5_booked_2 rfl (lv_at hl 1 rfl) ?_
  refine ck_cVi (As := [.int a0]) (rest := [.ref (ad 30)]) ⟨hx, hb, hml, hown, hts⟩ hKK (ct_X5_isCall l G s.heap ad N F hW V L nc nr t hM a0) (cwV 1 hts gX5_booked_X5_isCall rfl rfl rfl (by decide +kernel) ⟨Nat.le_of_ble_eq_true rfl, Nat.le_of_ble_eq_true rfl⟩) (ck_recv hK hW (hM.n 30 (by decide) (by decide)) hM.f30 rfl) rfl hl rfl (Nat.le_of_ble_eq_true rfl) dX5_booked_3 ⟨Nat.le_of_ble_eq_true rfl, Nat.le_of_ble_eq_true rfl⟩ (fun r_3 h_3 => ?_)
  rcases h_3 with ⟨h_3, rfl⟩ | ⟨h_3, rfl⟩
  · skip
    refine ck_cVw (As := [.int 1]) (rest := []) ⟨hx, hb, hml, hown, hts⟩ hKK (ct_X5_asks1 l G s.heap ad N F hW V L nc nr t hM) (cwV 1 hts gX5_booked_X5_asks rfl rfl rfl (by decide +kernel) ⟨Nat.le_of_ble_eq_true rfl, Nat.le_of_ble_eq_true rfl⟩) (ck_recv hK hW (hM.n 30 (by decide) (by decide)) hM.f30 rfl) rfl hl rfl (Nat.le_of_ble_eq_true rfl) dX5_booked_6 ⟨Nat.le_of_ble_eq_true rfl, Nat.le_of_ble_eq_true rfl⟩ hS (fun r_6 H locs h_6 hz_6 hS => ?_)
    have hKK := hKK0.keep hS.2.1
    obtain ⟨rfl, F_6, hW, hM, hs6⟩ := h_6
    have hsm := hsm.tr hs6
    refine lv_if_ne (tgt := 14) hx hb dX5_booked_9 (by decide) (fun _ => ?_) (fun c_9 => absurd c_9 (by decide))
    obtain ⟨q, hq, rfl⟩ := ck_ok_ex h_3 (by have := hM.nc; omega)
    refine lv_aload_n hx hb dX5_booked_14 rfl (lv_at hl 0 rfl) ?_
    refine ck_get (v := .ref (ad 41)) hx hb hts hinX5 hown hK hW (hM.n 30 (by decide) (by decide)) hM.f30 rfl 12 (by decide) (hts _ (List.mem_of_getElem? (i := 1) rfl)) rfl rfl dX5_booked_15 ?_
    refine lv_iload_n hx hb dX5_booked_18 rfl (lv_at hl 1 rfl) ?_
    refine ck_iald hx hb hK hW (hM.n 41 (by decide) (by decide)) hM.f41 q (rfl) (by have := hM.nc; omega) (by decide) dX5_booked_19 ?_
    refine lv_iconst (v := (-1)) hx hb dX5_booked_20 (by decide) ?_
    refine lv_icmp_ne (tgt := 32) hx hb dX5_booked_21 (by decide) (fun c_21 => ?_) (fun c_21 => ?_)
    · skip
      refine lv_aload_n hx hb dX5_booked_32 rfl (lv_at hl 0 rfl) ?_
      refine ck_get (v := .ref (ad 41)) hx hb hts hinX5 hown hK hW (hM.n 30 (by decide) (by decide)) hM.f30 rfl 12 (by decide) (hts _ (List.mem_of_getElem? (i := 1) rfl)) rfl rfl dX5_booked_33 ?_
      refine lv_iload_n hx hb dX5_booked_36 rfl (lv_at hl 1 rfl) ?_
      refine ck_iald hx hb hK hW (hM.n 41 (by decide) (by decide)) hM.f41 q (rfl) (by have := hM.nc; omega) (by decide) dX5_booked_37 ?_
      exact W.iret (v := (((V 5)) q)) hx hb hr (fun t ht hW9 => ⟨⟨_, rfl, by rw [ht]; exact ⟨_, F_6, Or.inr ⟨q, hq, rfl, Or.inr ⟨c_21, rfl, rfl⟩⟩, hW, hM, hsm⟩⟩, hS.F ht⟩) hS.2.2 dX5_booked_38
    · skip
      refine lv_aload_n hx hb dX5_booked_24 rfl (lv_at hl 0 rfl) ?_
      refine lv_iconst (v := 2) hx hb dX5_booked_25 (by decide) ?_
      refine ck_cVw (As := [.int 2]) (rest := []) ⟨hx, hb, hml, hown, hts⟩ hKK (ct_X5_fails l G H ad N F_6 hW V L nc nr 0 hM 2) (cwV 1 hts gX5_booked_X5_fails rfl rfl rfl (by decide +kernel) ⟨Nat.le_of_ble_eq_true rfl, Nat.le_of_ble_eq_true rfl⟩) (ck_recv hK hW (hM.n 30 (by decide) (by decide)) hM.f30 rfl) rfl hl rfl (Nat.le_of_ble_eq_true rfl) dX5_booked_26 ⟨Nat.le_of_ble_eq_true rfl, Nat.le_of_ble_eq_true rfl⟩ hS (fun r_26 H locs h_26 hz_26 hS => ?_)
      have hKK := hKK0.keep hS.2.1
      obtain ⟨rfl, F_26, hW, hM, hs26⟩ := h_26
      have hsm := hsm.tr hs26
      refine lv_goto (tgt := 38) hx hb dX5_booked_29 (by decide) ?_
      exact W.iret (v := 0) hx hb hr (fun t ht hW9 => ⟨⟨_, rfl, by rw [ht]; exact ⟨_, F_26, Or.inr ⟨q, hq, rfl, Or.inl ⟨c_21, rfl⟩⟩, hW, hM, hsm⟩⟩, hS.F ht⟩) hS.2.2 dX5_booked_38
  · skip
    refine ck_cVw (As := [.int 0]) (rest := []) ⟨hx, hb, hml, hown, hts⟩ hKK (ct_X5_asks0 l G s.heap ad N F hW V L nc nr t hM) (cwV 1 hts gX5_booked_X5_asks rfl rfl rfl (by decide +kernel) ⟨Nat.le_of_ble_eq_true rfl, Nat.le_of_ble_eq_true rfl⟩) (ck_recv hK hW (hM.n 30 (by decide) (by decide)) hM.f30 rfl) rfl hl rfl (Nat.le_of_ble_eq_true rfl) dX5_booked_6 ⟨Nat.le_of_ble_eq_true rfl, Nat.le_of_ble_eq_true rfl⟩ hS (fun r_6 H locs h_6 hz_6 hS => ?_)
    have hKK := hKK0.keep hS.2.1
    obtain ⟨rfl, F_6, hW, hM, hs6⟩ := h_6
    have hsm := hsm.tr hs6
    refine lv_if_ne (tgt := 14) hx hb dX5_booked_9 (by decide) (fun c_9 => absurd (by decide) c_9) (fun _ => ?_)
    refine lv_iconst (v := 0) hx hb dX5_booked_12 (by decide) ?_
    exact W.iret (v := 0) hx hb hr (fun t ht hW9 => ⟨⟨_, rfl, by rw [ht]; exact ⟨_, F_6, Or.inl ⟨h_3, rfl⟩, hW, hM, hsm⟩⟩, hS.F ht⟩) hS.2.2 dX5_booked_13
def ck_Rrate (V : Nat → Nat → Int32) (nr : Nat) (a0 a1 k r : Int32) : Prop := (¬ (ck_isN a0 ∧ ck_isD a1) ∧ k = 1) ∨ ((ck_isN a0 ∧ ck_isD a1) ∧ ((ck_best V a0 a1 nr = none ∧ k = 2) ∨ (∃ b, b < nr ∧ ck_best V a0 a1 nr = some b ∧ k = 0 ∧ r = nI b)))
set_option maxHeartbeats 4000000 in
set_option maxRecDepth 100000 in
theorem ct_X5_rateFor (l : Launch) (G : ck_G) (H : Heap) (ad : Nat → Nat) (N : Nat → Prop) (F : Nat → va_E) (hW : ck_W G ad N F H) (V : Nat → Nat → Int32) (L : Nat → Nat → Int64) (nc nr : Nat) (t : Int32) (hM : ck_M G ad V L nc nr t N F) (hI : ck_I V nc nr) (a0 a1 : Int32) : Met l yX5_rateFor wsX5_rateFor ({ frames := 2, cells := 0, slots := 0, locals := 47 }) (ck_P G H [.ref (ad 30), .int a0, .int a1]) (ck_Qi G (fun r H1 => ∃ t1 F1, ck_Rrate V nr a0 a1 t1 r ∧ ck_W G ad N F1 H1 ∧ ck_M G ad V L nc nr t1 N F1 ∧ ck_sM F F1)) 0 0 (ck_A G) := by
  refine Met.ofW (cc := cX5_rateFor) (maxL := 4) (ret := (some .int)) (by decide) rfl ?_
  intro p e s m args below meth c s₁ B hml hv
  obtain ⟨rfl, hH, hKK⟩ := hv
  subst hH
  have hx := B.exec
  have hb := B.bytes
  have hr := B.returns
  have hts := atoms_spec (ws := wsX5_rateFor) B.pre
  have hown : s.vm.findClass RX5 = some m.cls := findClass_of_methodNamed B.named
  have hlocks := B.notSynchronized
  have hKK0 := hKK
  have hK := hKK.1.1
  have hS : va_S (ck_A G) s.heap s.heap [] := va_S.rf
  have hl := lv_entry ([.ref (ad 30), .int a0, .int a1]) (n := 4) (Nat.le_of_ble_eq_true rfl)
  rw [lg_entry_eq]
  generalize (lg_sl ([.ref (ad 30), .int a0, .int a1]) ++ List.replicate (4 - (lg_sl ([.ref (ad 30), .int a0, .int a1])).length) Slot.unset).toArray = ls at hl ⊢
  have hl : lv_has ls 4 [(0, .ref (ad 30)), (1, .int a0), (2, .int a1)] := hl
  have hsm : ck_sM F F := ck_sM.rf
  have hp7 := hI.hp7
  have hn0 := hI.hn0
  have hst := hI.hst
  refine lv_aload_n hx hb dX5_rateFor_0 rfl (lv_at hl 0 rfl) ?_
  refine lv_iload_n hx hb dX5_rateFor_1 rfl (lv_at hl 1 rfl) ?_
  refine ck_cSi (As := [.int a0]) (rest := [.ref (ad 30)]) ⟨hx, hb, hml, hown, hts⟩ hKK (ct_X5_isNumber l G s.heap a0) (va_cwS 1 hts gX5_rateFor_X5_isNumber rfl rfl rfl (by decide +kernel) ⟨Nat.le_of_ble_eq_true rfl, Nat.le_of_ble_eq_true rfl⟩) rfl hl rfl (Nat.le_of_ble_eq_true rfl) dX5_rateFor_2 ⟨Nat.le_of_ble_eq_true rfl, Nat.le_of_ble_eq_true rfl⟩ (fun r_2 h_2 => ?_)
  rcases h_2 with ⟨h_2, rfl⟩ | ⟨h_2, rfl⟩
  · skip
    refine lv_if_eq (tgt := 23) hx hb dX5_rateFor_5 (by decide) (fun c_5 => absurd c_5 (by decide)) (fun _ => ?_)
    refine lv_iload_n hx hb dX5_rateFor_8 rfl (lv_at hl 2 rfl) ?_
    refine lv_iconst (v := 0) hx hb dX5_rateFor_9 (by decide) ?_
    refine lv_sipush (v := 999) hx hb dX5_rateFor_10 (by decide) ?_
    refine ck_cSi (As := [.int a1, .int 0, .int 999]) (rest := [.ref (ad 30)]) ⟨hx, hb, hml, hown, hts⟩ hKK (ct_X5_in l G s.heap a1 0 999) (va_cwS 3 hts gX5_rateFor_X5_in rfl rfl rfl (by decide +kernel) ⟨Nat.le_of_ble_eq_true rfl, Nat.le_of_ble_eq_true rfl⟩) rfl hl rfl (Nat.le_of_ble_eq_true rfl) dX5_rateFor_13 ⟨Nat.le_of_ble_eq_true rfl, Nat.le_of_ble_eq_true rfl⟩ (fun r_13 h_13 => ?_)
    rcases h_13 with ⟨h_13, rfl⟩ | ⟨h_13, rfl⟩
    · skip
      refine lv_if_eq (tgt := 23) hx hb dX5_rateFor_16 (by decide) (fun c_16 => absurd c_16 (by decide)) (fun _ => ?_)
      refine lv_iconst (v := 1) hx hb dX5_rateFor_19 (by decide) ?_
      refine lv_goto (tgt := 24) hx hb dX5_rateFor_20 (by decide) ?_
      refine ck_cVw (As := [.int 1]) (rest := []) ⟨hx, hb, hml, hown, hts⟩ hKK (ct_X5_asks1 l G s.heap ad N F hW V L nc nr t hM) (cwV 1 hts gX5_rateFor_X5_asks rfl rfl rfl (by decide +kernel) ⟨Nat.le_of_ble_eq_true rfl, Nat.le_of_ble_eq_true rfl⟩) (ck_recv hK hW (hM.n 30 (by decide) (by decide)) hM.f30 rfl) rfl hl rfl (Nat.le_of_ble_eq_true rfl) dX5_rateFor_24 ⟨Nat.le_of_ble_eq_true rfl, Nat.le_of_ble_eq_true rfl⟩ hS (fun r_24 H locs h_24 hz_24 hS => ?_)
      have hKK := hKK0.keep hS.2.1
      obtain ⟨rfl, F_24, hW, hM, hs24⟩ := h_24
      have hsm := hsm.tr hs24
      refine lv_if_ne (tgt := 32) hx hb dX5_rateFor_27 (by decide) (fun _ => ?_) (fun c_27 => absurd c_27 (by decide))
      refine lv_aload_n hx hb dX5_rateFor_32 rfl (lv_at hl 0 rfl) ?_
      refine lv_iload_n hx hb dX5_rateFor_33 rfl (lv_at hl 1 rfl) ?_
      refine lv_iload_n hx hb dX5_rateFor_34 rfl (lv_at hl 2 rfl) ?_
      refine ck_cVi (As := [.int a0, .int a1]) (rest := []) ⟨hx, hb, hml, hown, hts⟩ hKK (ct_X5_rate l G H ad N F_24 hW V L nc nr 0 hM a0 a1 hp7 (ck_isN_rg h_2)) (cwV 2 hts gX5_rateFor_X5_rate rfl rfl rfl (by decide +kernel) ⟨Nat.le_of_ble_eq_true rfl, Nat.le_of_ble_eq_true rfl⟩) (ck_recv hK hW (hM.n 30 (by decide) (by decide)) hM.f30 rfl) rfl hl rfl (Nat.le_of_ble_eq_true rfl) dX5_rateFor_35 ⟨Nat.le_of_ble_eq_true rfl, Nat.le_of_ble_eq_true rfl⟩ (fun r_35 h_35 => ?_)
      subst h_35
      obtain ⟨ob, hob⟩ : ∃ ob, ck_best V a0 a1 nr = ob := ⟨_, rfl⟩
      rw [hob]
      rcases ob with _ | b
      · skip
        refine lv_istore_n (lv' := [(3, .int (-1)), (0, .ref (ad 30)), (1, .int a0), (2, .int a1)]) hx hb dX5_rateFor_38 rfl hl (by decide) rfl (fun ls hl => ?_)
        refine lv_iload_n hx hb dX5_rateFor_39 rfl (lv_at hl 0 rfl) ?_
        refine lv_iconst (v := (-1)) hx hb dX5_rateFor_40 (by decide) ?_
        refine lv_icmp_ne (tgt := 52) hx hb dX5_rateFor_41 (by decide) (fun c_41 => absurd (by decide) c_41) (fun _ => ?_)
        refine lv_aload_n hx hb dX5_rateFor_44 rfl (lv_at hl 1 rfl) ?_
        refine lv_iconst (v := 2) hx hb dX5_rateFor_45 (by decide) ?_
        refine ck_cVw (As := [.int 2]) (rest := []) ⟨hx, hb, hml, hown, hts⟩ hKK (ct_X5_fails l G H ad N F_24 hW V L nc nr 0 hM 2) (cwV 1 hts gX5_rateFor_X5_fails rfl rfl rfl (by decide +kernel) ⟨Nat.le_of_ble_eq_true rfl, Nat.le_of_ble_eq_true rfl⟩) (ck_recv hK hW (hM.n 30 (by decide) (by decide)) hM.f30 rfl) rfl hl rfl (Nat.le_of_ble_eq_true rfl) dX5_rateFor_46 ⟨Nat.le_of_ble_eq_true rfl, Nat.le_of_ble_eq_true rfl⟩ hS (fun r_46 H locs h_46 hz_46 hS => ?_)
        have hKK := hKK0.keep hS.2.1
        obtain ⟨rfl, F_46, hW, hM, hs46⟩ := h_46
        have hsm := hsm.tr hs46
        refine lv_goto (tgt := 53) hx hb dX5_rateFor_49 (by decide) ?_
        exact W.iret (v := 0) hx hb hr (fun t ht hW9 => ⟨⟨_, rfl, by rw [ht]; exact ⟨_, F_46, Or.inr ⟨⟨h_2, h_13⟩, Or.inl ⟨hob, rfl⟩⟩, hW, hM, hsm⟩⟩, hS.F ht⟩) hS.2.2 dX5_rateFor_53
      · skip
        have hbn : b < nr := ck_best_lt hob
        refine lv_istore_n (lv' := [(3, .int (nI b)), (0, .ref (ad 30)), (1, .int a0), (2, .int a1)]) hx hb dX5_rateFor_38 rfl hl (by decide) rfl (fun ls hl => ?_)
        refine lv_iload_n hx hb dX5_rateFor_39 rfl (lv_at hl 0 rfl) ?_
        refine lv_iconst (v := (-1)) hx hb dX5_rateFor_40 (by decide) ?_
        refine lv_icmp_ne (tgt := 52) hx hb dX5_rateFor_41 (by decide) (fun _ => ?_) (fun c_41 => absurd c_41 (ck_m1 (by have := hM.nr; omega)))
        refine lv_iload_n hx hb dX5_rateFor_52 rfl (lv_at hl 0 rfl) ?_
        exact W.iret (v := (nI b)) hx hb hr (fun t ht hW9 => ⟨⟨_, rfl, by rw [ht]; exact ⟨_, F_24, Or.inr ⟨⟨h_2, h_13⟩, Or.inr ⟨b, hbn, hob, rfl, rfl⟩⟩, hW, hM, hsm⟩⟩, hS.F ht⟩) hS.2.2 dX5_rateFor_53
    · skip
      refine lv_if_eq (tgt := 23) hx hb dX5_rateFor_16 (by decide) (fun _ => ?_) (fun c_16 => absurd (by decide) c_16)
      refine lv_iconst (v := 0) hx hb dX5_rateFor_23 (by decide) ?_
      refine ck_cVw (As := [.int 0]) (rest := []) ⟨hx, hb, hml, hown, hts⟩ hKK (ct_X5_asks0 l G s.heap ad N F hW V L nc nr t hM) (cwV 1 hts gX5_rateFor_X5_asks rfl rfl rfl (by decide +kernel) ⟨Nat.le_of_ble_eq_true rfl, Nat.le_of_ble_eq_true rfl⟩) (ck_recv hK hW (hM.n 30 (by decide) (by decide)) hM.f30 rfl) rfl hl rfl (Nat.le_of_ble_eq_true rfl) dX5_rateFor_24 ⟨Nat.le_of_ble_eq_true rfl, Nat.le_of_ble_eq_true rfl⟩ hS (fun r_24 H locs h_24 hz_24 hS => ?_)
      have hKK := hKK0.keep hS.2.1
      obtain ⟨rfl, F_24, hW, hM, hs24⟩ := h_24
      have hsm := hsm.tr hs24
      refine lv_if_ne (tgt := 32) hx hb dX5_rateFor_27 (by decide) (fun c_27 => absurd (by decide) c_27) (fun _ => ?_)
      refine lv_iconst (v := 0) hx hb dX5_rateFor_30 (by decide) ?_
      exact W.iret (v := 0) hx hb hr (fun t ht hW9 => ⟨⟨_, rfl, by rw [ht]; exact ⟨_, F_24, Or.inl ⟨fun z => h_13 z.2, rfl⟩, hW, hM, hsm⟩⟩, hS.F ht⟩) hS.2.2 dX5_rateFor_31
  · skip
    refine lv_if_eq (tgt := 23) hx hb dX5_rateFor_5 (by decide) (fun _ => ?_) (fun c_5 => absurd (by decide) c_5)
    refine lv_iconst (v := 0) hx hb dX5_rateFor_23 (by decide) ?_
    refine ck_cVw (As := [.int 0]) (rest := []) ⟨hx, hb, hml, hown, hts⟩ hKK (ct_X5_asks0 l G s.heap ad N F hW V L nc nr t hM) (cwV 1 hts gX5_rateFor_X5_asks rfl rfl rfl (by decide +kernel) ⟨Nat.le_of_ble_eq_true rfl, Nat.le_of_ble_eq_true rfl⟩) (ck_recv hK hW (hM.n 30 (by decide) (by decide)) hM.f30 rfl) rfl hl rfl (Nat.le_of_ble_eq_true rfl) dX5_rateFor_24 ⟨Nat.le_of_ble_eq_true rfl, Nat.le_of_ble_eq_true rfl⟩ hS (fun r_24 H locs h_24 hz_24 hS => ?_)
    have hKK := hKK0.keep hS.2.1
    obtain ⟨rfl, F_24, hW, hM, hs24⟩ := h_24
    have hsm := hsm.tr hs24
    refine lv_if_ne (tgt := 32) hx hb dX5_rateFor_27 (by decide) (fun c_27 => absurd (by decide) c_27) (fun _ => ?_)
    refine lv_iconst (v := 0) hx hb dX5_rateFor_30 (by decide) ?_
    exact W.iret (v := 0) hx hb hr (fun t ht hW9 => ⟨⟨_, rfl, by rw [ht]; exact ⟨_, F_24, Or.inl ⟨fun z => h_2 z.1, rfl⟩, hW, hM, hsm⟩⟩, hS.F ht⟩) hS.2.2 dX5_rateFor_31
def ck_tt (V : Nat → Nat → Int32) (q : Int32) : Nat → Int32
  | 0 => 0
  | k + 1 => if ck_fit q (V 0 k) = true then ck_tt V q k + ck_bk (V 5 k) else ck_tt V q k
theorem ck_tt_yes {V : Nat → Nat → Int32} {q : Int32} {k nc : Nat} (hk : k < nc) (h : ck_fit q (V 0 k) = true) : ck_tt V q (min (k + 1) nc) = ck_tt V q (min k nc) + ck_bk (V 5 k) := by
  rw [show min (k + 1) nc = k + 1 by omega, show min k nc = k by omega]; simp only [ck_tt]; rw [if_pos h]
theorem ck_tt_no {V : Nat → Nat → Int32} {q : Int32} {k nc : Nat} (hk : k < nc) (h : ¬ ck_fit q (V 0 k) = true) : ck_tt V q (min (k + 1) nc) = ck_tt V q (min k nc) := by
  rw [show min (k + 1) nc = k + 1 by omega, show min k nc = k by omega]; simp only [ck_tt]; rw [if_neg h]
theorem ck_tt_past {V : Nat → Nat → Int32} {q : Int32} {k nc : Nat} (hk : ¬ k < nc) : ck_tt V q (min (k + 1) nc) = ck_tt V q (min k nc) := by rw [show min (k + 1) nc = min k nc by omega]
def ck_Rsum (f : Int32 → Int32) (a0 k r : Int32) : Prop := (¬ ck_isP a0 ∧ k = 1) ∨ (ck_isP a0 ∧ k = 0 ∧ r = f a0)
set_option maxHeartbeats 4000000 in
set_option maxRecDepth 100000 in
theorem ct_X5_total (l : Launch) (G : ck_G) (H : Heap) (ad : Nat → Nat) (N : Nat → Prop) (F : Nat → va_E) (hW : ck_W G ad N F H) (V : Nat → Nat → Int32) (L : Nat → Nat → Int64) (nc nr : Nat) (t : Int32) (hM : ck_M G ad V L nc nr t N F) (hI : ck_I V nc nr) (a0 : Int32) : Met l yX5_total wsX5_total ({ frames := 2, cells := 0, slots := 0, locals := 42 }) (ck_P G H [.ref (ad 30), .int a0]) (ck_Qi G (fun r H1 => ∃ t1 F1, ck_Rsum (fun q => ck_tt V q nc) a0 t1 r ∧ ck_W G ad N F1 H1 ∧ ck_M G ad V L nc nr t1 N F1 ∧ ck_sM F F1)) 0 0 (ck_A G) := by
  refine Met.ofW (cc := cX5_total) (maxL := 4) (ret := (some .int)) (by decide) rfl ?_
  intro p e s m args below meth c s₁ B hml hv
  obtain ⟨rfl, hH, hKK⟩ := hv
  subst hH
  have hx := B.exec
  have hb := B.bytes
  have hr := B.returns
  have hts := atoms_spec (ws := wsX5_total) B.pre
  have hown : s.vm.findClass RX5 = some m.cls := findClass_of_methodNamed B.named
  have hlocks := B.notSynchronized
  have hKK0 := hKK
  have hK := hKK.1.1
  have hS : va_S (ck_A G) s.heap s.heap [] := va_S.rf
  have hinX5 : ∀ w ∈ u_ws RX5 TX5 26, w ∈ wsX5_total := by decide +kernel
  have hl := lv_entry ([.ref (ad 30), .int a0]) (n := 4) (Nat.le_of_ble_eq_true rfl)
  rw [lg_entry_eq]
  generalize (lg_sl ([.ref (ad 30), .int a0]) ++ List.replicate (4 - (lg_sl ([.ref (ad 30), .int a0])).length) Slot.unset).toArray = ls at hl ⊢
  have hl : lv_has ls 4 [(0, .ref (ad 30)), (1, .int a0)] := hl
  have hsm : ck_sM F F := ck_sM.rf
  have hp7 := hI.hp7
  have hn0 := hI.hn0
  have hst := hI.hst
  refine lv_iconst (v := 0) hx hb dX5_total_0 (by decide) ?_
  refine lv_istore_n (lv' := [(2, .int 0), (0, .ref (ad 30)), (1, .int a0)]) hx hb dX5_total_1 rfl hl (by decide) rfl (fun ls hl => ?_)
  refine lv_aload_n hx hb dX5_total_2 rfl (lv_at hl 1 rfl) ?_
  refine lv_iload_n hx hb dX5_total_3 rfl (lv_at hl 2 rfl) ?_
  refine ck_cSi (As := [.int a0]) (rest := [.ref (ad 30)]) ⟨hx, hb, hml, hown, hts⟩ hKK (ct_X5_isPrefix l G s.heap a0) (va_cwS 1 hts gX5_total_X5_isPrefix rfl rfl rfl (by decide +kernel) ⟨Nat.le_of_ble_eq_true rfl, Nat.le_of_ble_eq_true rfl⟩) rfl hl rfl (Nat.le_of_ble_eq_true rfl) dX5_total_4 ⟨Nat.le_of_ble_eq_true rfl, Nat.le_of_ble_eq_true rfl⟩ (fun r_4 h_4 => ?_)
  rcases h_4 with ⟨h_4, rfl⟩ | ⟨h_4, rfl⟩
  · skip
    refine ck_cVw (As := [.int 1]) (rest := []) ⟨hx, hb, hml, hown, hts⟩ hKK (ct_X5_asks1 l G s.heap ad N F hW V L nc nr t hM) (cwV 1 hts gX5_total_X5_asks rfl rfl rfl (by decide +kernel) ⟨Nat.le_of_ble_eq_true rfl, Nat.le_of_ble_eq_true rfl⟩) (ck_recv hK hW (hM.n 30 (by decide) (by decide)) hM.f30 rfl) rfl hl rfl (Nat.le_of_ble_eq_true rfl) dX5_total_7 ⟨Nat.le_of_ble_eq_true rfl, Nat.le_of_ble_eq_true rfl⟩ hS (fun r_7 H locs h_7 hz_7 hS => ?_)
    have hKK := hKK0.keep hS.2.1
    obtain ⟨rfl, F_7, hW, hM, hs7⟩ := h_7
    have hsm := hsm.tr hs7
    refine lv_if_eq (tgt := 54) hx hb dX5_total_10 (by decide) (fun c_10 => absurd c_10 (by decide)) (fun _ => ?_)
    refine lv_iconst (v := 0) hx hb dX5_total_13 (by decide) ?_
    refine lv_istore_n (lv' := [(3, .int 0), (2, .int 0), (0, .ref (ad 30)), (1, .int a0)]) hx hb dX5_total_14 rfl hl (by decide) rfl (fun ls hl => ?_)
    refine ck_loop (P := fun ls => W p l e _ s m _ below meth c _ _ _ _ _ (F0 m _ ls _)) nc (fun k => [(3, .int (nI k)), (2, .int (ck_tt V a0 k)), (0, .ref (ad 30)), (1, .int a0)]) (fun k => True) (lv_sub hl [0, 1, 2, 3] rfl) (trivial) ?_ ?_
    · intro ls hl hI15
      have hl : lv_has ls 4 [(3, .int (nI nc)), (2, .int (ck_tt V a0 nc)), (0, .ref (ad 30)), (1, .int a0)] := hl
      refine lv_iload_n hx hb dX5_total_15 rfl (lv_at hl 0 rfl) ?_
      refine lv_aload_n hx hb dX5_total_16 rfl (lv_at hl 2 rfl) ?_
      refine ck_get (v := .int (nI nc)) hx hb hts hinX5 hown hK hW (hM.n 30 (by decide) (by decide)) hM.f30 rfl 6 (by decide) (hts _ (List.mem_of_getElem? (i := 1) rfl)) rfl rfl dX5_total_17 ?_
      refine lv_icmp_ge (tgt := 54) hx hb dX5_total_20 (by decide) (fun _ => ?_) (fun c_20 => absurd (Int32.le_refl _) c_20)
      refine lv_iload_n hx hb dX5_total_54 rfl (lv_at hl 1 rfl) ?_
      exact W.iret (v := (ck_tt V a0 nc)) hx hb hr (fun t ht hW9 => ⟨⟨_, rfl, by rw [ht]; exact ⟨_, F_7, Or.inr ⟨h_4, rfl, rfl⟩, hW, hM, hsm⟩⟩, hS.F ht⟩) hS.2.2 dX5_total_55
    · intro k15 hk15 hI15 ih15 ls hl
      have hl : lv_has ls 4 [(3, .int (nI k15)), (2, .int (ck_tt V a0 k15)), (0, .ref (ad 30)), (1, .int a0)] := hl
      refine lv_iload_n hx hb dX5_total_15 rfl (lv_at hl 0 rfl) ?_
      refine lv_aload_n hx hb dX5_total_16 rfl (lv_at hl 2 rfl) ?_
      refine ck_get (v := .int (nI nc)) hx hb hts hinX5 hown hK hW (hM.n 30 (by decide) (by decide)) hM.f30 rfl 6 (by decide) (hts _ (List.mem_of_getElem? (i := 1) rfl)) rfl rfl dX5_total_17 ?_
      refine lv_icmp_ge (tgt := 54) hx hb dX5_total_20 (by decide) (fun c_20 => absurd c_20 (nI_ge hk15 (by have := hM.nc; omega))) (fun _ => ?_)
      refine lv_iload_n hx hb dX5_total_23 rfl (lv_at hl 1 rfl) ?_
      refine lv_iload_n hx hb dX5_total_24 rfl (lv_at hl 3 rfl) ?_
      refine lv_aload_n hx hb dX5_total_25 rfl (lv_at hl 2 rfl) ?_
      refine ck_get (v := .ref (ad 36)) hx hb hts hinX5 hown hK hW (hM.n 30 (by decide) (by decide)) hM.f30 rfl 7 (by decide) (hts _ (List.mem_of_getElem? (i := 2) rfl)) rfl rfl dX5_total_26 ?_
      refine lv_iload_n hx hb dX5_total_29 rfl (lv_at hl 0 rfl) ?_
      refine ck_iald hx hb hK hW (hM.n 36 (by decide) (by decide)) hM.f36 k15 (rfl) (by have := hM.nc; omega) (by decide) dX5_total_30 ?_
      refine ck_cSi (As := [.int a0, .int (((V 0)) k15)]) (rest := [.int (ck_tt V a0 k15)]) ⟨hx, hb, hml, hown, hts⟩ hKK (ct_X5_fits l G H a0 ((((V 0)) k15)) (ck_isP_0 h_4) (hn0 k15 hk15).1 (hn0 k15 hk15).2) (va_cwS 2 hts gX5_total_X5_fits rfl rfl rfl (by decide +kernel) ⟨Nat.le_of_ble_eq_true rfl, Nat.le_of_ble_eq_true rfl⟩) rfl hl rfl (Nat.le_of_ble_eq_true rfl) dX5_total_31 ⟨Nat.le_of_ble_eq_true rfl, Nat.le_of_ble_eq_true rfl⟩ (fun r_31 h_31 => ?_)
      rcases h_31 with ⟨h_31, rfl⟩ | ⟨h_31, rfl⟩
      · skip
        refine lv_if_eq (tgt := 45) hx hb dX5_total_34 (by decide) (fun c_34 => absurd c_34 (by decide)) (fun _ => ?_)
        refine lv_aload_n hx hb dX5_total_37 rfl (lv_at hl 2 rfl) ?_
        refine lv_iload_n hx hb dX5_total_38 rfl (lv_at hl 0 rfl) ?_
        refine ck_cVi (As := [.int (nI k15)]) (rest := [.int (ck_tt V a0 k15)]) ⟨hx, hb, hml, hown, hts⟩ hKK (ct_X5_bookedOf l G H ad N F_7 hW V L nc nr 0 hM k15 (by have := hM.nc; omega)) (cwV 1 hts gX5_total_X5_bookedOf rfl rfl rfl (by decide +kernel) ⟨Nat.le_of_ble_eq_true rfl, Nat.le_of_ble_eq_true rfl⟩) (ck_recv hK hW (hM.n 30 (by decide) (by decide)) hM.f30 rfl) rfl hl rfl (Nat.le_of_ble_eq_true rfl) dX5_total_39 ⟨Nat.le_of_ble_eq_true rfl, Nat.le_of_ble_eq_true rfl⟩ (fun r_39 h_39 => ?_)
        subst h_39
        refine lv_goto (tgt := 46) hx hb dX5_total_42 (by decide) ?_
        refine lv_iadd hx hb dX5_total_46 ?_
        refine lv_istore_n (lv' := [(2, .int (((ck_tt V a0 k15)) + ((ck_bk (V 5 k15))))), (3, .int (nI k15)), (0, .ref (ad 30)), (1, .int a0)]) hx hb dX5_total_47 rfl hl (by decide) rfl (fun ls hl => ?_)
        refine lv_iinc (v := nI (k15 + 1)) (lv' := [(3, .int (nI (k15 + 1))), (2, .int (((ck_tt V a0 k15)) + ((ck_bk (V 5 k15))))), (0, .ref (ad 30)), (1, .int a0)]) hx hb dX5_total_48 hl (k := 1) rfl (nI_1 k15) (by decide) rfl (fun ls hl => ?_)
        refine lv_goto (tgt := 15) hx hb dX5_total_51 (by decide) ?_
        have e9 : ck_tt V a0 (k15 + 1) = ck_tt V a0 k15 + ck_bk (V 5 k15) := by simp only [ck_tt]; rw [if_pos h_31]
        have hl : lv_has ls 4 [(3, .int (nI (k15 + 1))), (2, .int (ck_tt V a0 (k15 + 1))), (0, .ref (ad 30)), (1, .int a0)] := by rw [e9]; exact hl
        exact ih15 ls (lv_sub hl [0, 1, 2, 3] rfl) (trivial)
      · skip
        refine lv_if_eq (tgt := 45) hx hb dX5_total_34 (by decide) (fun _ => ?_) (fun c_34 => absurd (by decide) c_34)
        refine lv_iconst (v := 0) hx hb dX5_total_45 (by decide) ?_
        refine lv_iadd hx hb dX5_total_46 ?_
        refine lv_istore_n (lv' := [(2, .int (((ck_tt V a0 k15)) + 0)), (3, .int (nI k15)), (0, .ref (ad 30)), (1, .int a0)]) hx hb dX5_total_47 rfl hl (by decide) rfl (fun ls hl => ?_)
        refine lv_iinc (v := nI (k15 + 1)) (lv' := [(3, .int (nI (k15 + 1))), (2, .int (((ck_tt V a0 k15)) + 0)), (0, .ref (ad 30)), (1, .int a0)]) hx hb dX5_total_48 hl (k := 1) rfl (nI_1 k15) (by decide) rfl (fun ls hl => ?_)
        refine lv_goto (tgt := 15) hx hb dX5_total_51 (by decide) ?_
        have e9 : ck_tt V a0 (k15 + 1) = ck_tt V a0 k15 + 0 := by simp only [ck_tt]; rw [if_neg h_31, Int32.add_zero]
        have hl : lv_has ls 4 [(3, .int (nI (k15 + 1))), (2, .int (ck_tt V a0 (k15 + 1))), (0, .ref (ad 30)), (1, .int a0)] := by rw [e9]; exact hl
        exact ih15 ls (lv_sub hl [0, 1, 2, 3] rfl) (trivial)
  · skip
    refine ck_cVw (As := [.int 0]) (rest := []) ⟨hx, hb, hml, hown, hts⟩ hKK (ct_X5_asks0 l G s.heap ad N F hW V L nc nr t hM) (cwV 1 hts gX5_total_X5_asks rfl rfl rfl (by decide +kernel) ⟨Nat.le_of_ble_eq_true rfl, Nat.le_of_ble_eq_true rfl⟩) (ck_recv hK hW (hM.n 30 (by decide) (by decide)) hM.f30 rfl) rfl hl rfl (Nat.le_of_ble_eq_true rfl) dX5_total_7 ⟨Nat.le_of_ble_eq_true rfl, Nat.le_of_ble_eq_true rfl⟩ hS (fun r_7 H locs h_7 hz_7 hS => ?_)
    have hKK := hKK0.keep hS.2.1
    obtain ⟨rfl, F_7, hW, hM, hs7⟩ := h_7
    have hsm := hsm.tr hs7
    refine lv_if_eq (tgt := 54) hx hb dX5_total_10 (by decide) (fun _ => ?_) (fun c_10 => absurd (by decide) c_10)
    refine lv_iload_n hx hb dX5_total_54 rfl (lv_at hl 0 rfl) ?_
    exact W.iret (v := 0) hx hb hr (fun t ht hW9 => ⟨⟨_, rfl, by rw [ht]; exact ⟨_, F_7, Or.inl ⟨h_4, rfl⟩, hW, hM, hsm⟩⟩, hS.F ht⟩) hS.2.2 dX5_total_55
set_option maxHeartbeats 4000000 in
set_option maxRecDepth 100000 in
theorem ct_X5_difference (l : Launch) (G : ck_G) (H : Heap) (ad : Nat → Nat) (N : Nat → Prop) (F : Nat → va_E) (hW : ck_W G ad N F H) (V : Nat → Nat → Int32) (L : Nat → Nat → Int64) (nc nr : Nat) (t : Int32) (hM : ck_M G ad V L nc nr t N F) (hI : ck_I V nc nr) (a0 : Int32) : Met l yX5_difference wsX5_difference ({ frames := 2, cells := 0, slots := 0, locals := 45 }) (ck_P G H [.ref (ad 30), .int a0]) (ck_Qi G (fun r H1 => ∃ t1 F1, ck_Rsum (fun q => ck_df V q nc) a0 t1 r ∧ ck_W G ad N F1 H1 ∧ ck_M G ad V L nc nr t1 N F1 ∧ ck_sM F F1)) 0 0 (ck_A G) := by
  refine Met.ofW (cc := cX5_difference) (maxL := 2) (ret := (some .int)) (by decide) rfl ?_
  intro p e s m args below meth c s₁ B hml hv
  obtain ⟨rfl, hH, hKK⟩ := hv
  subst hH
  have hx := B.exec
  have hb := B.bytes
  have hr := B.returns
  have hts := atoms_spec (ws := wsX5_difference) B.pre
  have hown : s.vm.findClass RX5 = some m.cls := findClass_of_methodNamed B.named
  have hlocks := B.notSynchronized
  have hKK0 := hKK
  have hK := hKK.1.1
  have hS : va_S (ck_A G) s.heap s.heap [] := va_S.rf
  have hl := lv_entry ([.ref (ad 30), .int a0]) (n := 2) (Nat.le_of_ble_eq_true rfl)
  rw [lg_entry_eq]
  generalize (lg_sl ([.ref (ad 30), .int a0]) ++ List.replicate (2 - (lg_sl ([.ref (ad 30), .int a0])).length) Slot.unset).toArray = ls at hl ⊢
  have hl : lv_has ls 2 [(0, .ref (ad 30)), (1, .int a0)] := hl
  have hsm : ck_sM F F := ck_sM.rf
  have hp7 := hI.hp7
  have hn0 := hI.hn0
  have hst := hI.hst
  refine lv_aload_n hx hb dX5_difference_0 rfl (lv_at hl 0 rfl) ?_
  refine lv_iload_n hx hb dX5_difference_1 rfl (lv_at hl 1 rfl) ?_
  refine ck_cSi (As := [.int a0]) (rest := [.ref (ad 30)]) ⟨hx, hb, hml, hown, hts⟩ hKK (ct_X5_isPrefix l G s.heap a0) (va_cwS 1 hts gX5_difference_X5_isPrefix rfl rfl rfl (by decide +kernel) ⟨Nat.le_of_ble_eq_true rfl, Nat.le_of_ble_eq_true rfl⟩) rfl hl rfl (Nat.le_of_ble_eq_true rfl) dX5_difference_2 ⟨Nat.le_of_ble_eq_true rfl, Nat.le_of_ble_eq_true rfl⟩ (fun r_2 h_2 => ?_)
  rcases h_2 with ⟨h_2, rfl⟩ | ⟨h_2, rfl⟩
  · skip
    refine ck_cVw (As := [.int 1]) (rest := []) ⟨hx, hb, hml, hown, hts⟩ hKK (ct_X5_asks1 l G s.heap ad N F hW V L nc nr t hM) (cwV 1 hts gX5_difference_X5_asks rfl rfl rfl (by decide +kernel) ⟨Nat.le_of_ble_eq_true rfl, Nat.le_of_ble_eq_true rfl⟩) (ck_recv hK hW (hM.n 30 (by decide) (by decide)) hM.f30 rfl) rfl hl rfl (Nat.le_of_ble_eq_true rfl) dX5_difference_5 ⟨Nat.le_of_ble_eq_true rfl, Nat.le_of_ble_eq_true rfl⟩ hS (fun r_5 H locs h_5 hz_5 hS => ?_)
    have hKK := hKK0.keep hS.2.1
    obtain ⟨rfl, F_5, hW, hM, hs5⟩ := h_5
    have hsm := hsm.tr hs5
    refine lv_if_eq (tgt := 19) hx hb dX5_difference_8 (by decide) (fun c_8 => absurd c_8 (by decide)) (fun _ => ?_)
    refine lv_aload_n hx hb dX5_difference_11 rfl (lv_at hl 0 rfl) ?_
    refine lv_iload_n hx hb dX5_difference_12 rfl (lv_at hl 1 rfl) ?_
    refine ck_cVi (As := [.int a0]) (rest := []) ⟨hx, hb, hml, hown, hts⟩ hKK (ct_X5_differs l G H ad N F_5 hW V L nc nr 0 hM a0 (ck_isP_0 h_2) hn0) (cwV 1 hts gX5_difference_X5_differs rfl rfl rfl (by decide +kernel) ⟨Nat.le_of_ble_eq_true rfl, Nat.le_of_ble_eq_true rfl⟩) (ck_recv hK hW (hM.n 30 (by decide) (by decide)) hM.f30 rfl) rfl hl rfl (Nat.le_of_ble_eq_true rfl) dX5_difference_13 ⟨Nat.le_of_ble_eq_true rfl, Nat.le_of_ble_eq_true rfl⟩ (fun r_13 h_13 => ?_)
    subst h_13
    refine lv_goto (tgt := 20) hx hb dX5_difference_16 (by decide) ?_
    exact W.iret (v := (ck_df V a0 nc)) hx hb hr (fun t ht hW9 => ⟨⟨_, rfl, by rw [ht]; exact ⟨_, F_5, Or.inr ⟨h_2, rfl, rfl⟩, hW, hM, hsm⟩⟩, hS.F ht⟩) hS.2.2 dX5_difference_20
  · skip
    refine ck_cVw (As := [.int 0]) (rest := []) ⟨hx, hb, hml, hown, hts⟩ hKK (ct_X5_asks0 l G s.heap ad N F hW V L nc nr t hM) (cwV 1 hts gX5_difference_X5_asks rfl rfl rfl (by decide +kernel) ⟨Nat.le_of_ble_eq_true rfl, Nat.le_of_ble_eq_true rfl⟩) (ck_recv hK hW (hM.n 30 (by decide) (by decide)) hM.f30 rfl) rfl hl rfl (Nat.le_of_ble_eq_true rfl) dX5_difference_5 ⟨Nat.le_of_ble_eq_true rfl, Nat.le_of_ble_eq_true rfl⟩ hS (fun r_5 H locs h_5 hz_5 hS => ?_)
    have hKK := hKK0.keep hS.2.1
    obtain ⟨rfl, F_5, hW, hM, hs5⟩ := h_5
    have hsm := hsm.tr hs5
    refine lv_if_eq (tgt := 19) hx hb dX5_difference_8 (by decide) (fun _ => ?_) (fun c_8 => absurd (by decide) c_8)
    refine lv_iconst (v := 0) hx hb dX5_difference_19 (by decide) ?_
    exact W.iret (v := 0) hx hb hr (fun t ht hW9 => ⟨⟨_, rfl, by rw [ht]; exact ⟨_, F_5, Or.inl ⟨h_2, rfl⟩, hW, hM, hsm⟩⟩, hS.F ht⟩) hS.2.2 dX5_difference_20
