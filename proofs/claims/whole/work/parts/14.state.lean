def ck_C (G : ck_G) (ad : Nat → Nat) (V : Nat → Nat → Int32) (L : Nat → Nat → Int64) (nc nr : Nat) (N : Nat → Prop) (F : Nat → va_E) : Prop :=
  (nc ≤ 60) ∧
  (nr ≤ 30) ∧
  (F 0 = .inr (4, [.ref (ad 1), .ref (ad 2), .int (nI nc), .int (V 13 0), .ref (ad 3), .int (nI nr), .int (V 13 1), .ref (ad 4)])) ∧
  (∃ f, F 1 = .inl (G.2.1 5, 3, .inr (.inr (.inr (.inr f)))) ∧ ∀ k, k < 3 → f k = some (ad (5 + k))) ∧
  (∃ f, F 2 = .inl (G.2.1 2, 60, .inr (.inr (.inr (.inr f)))) ∧ ∀ k, k < 60 → f k = if k < nc then some (ad (100 + k)) else none) ∧
  (∃ f, F 3 = .inl (G.2.1 4, 30, .inr (.inr (.inr (.inr f)))) ∧ ∀ k, k < 30 → f k = if k < nr then some (ad (200 + k)) else none) ∧
  (∃ f, F 4 = .inl (G.2.1 3, 4, .inr (.inr (.inr (.inr f)))) ∧ ∀ k, k < 4 → f k = some (ad (11 + k))) ∧
  (∀ k, k < 3 → F (5 + k) = .inr (3, [.ref (ad (8 + k)), .int (V 14 k), .int (V 16 k), .int (V 17 k), .int (V 15 k)])) ∧
  (∀ k, k < 3 → F (8 + k) = .inl (G.2.1 1, 157, .inr (.inl (L k)))) ∧
  (∀ k, k < 4 → F (11 + k) = .inr (1, [.ref (ad (15 + k)), .ref (ad (19 + k))])) ∧
  (∀ k, k < 4 → F (15 + k) = .inl (G.2.1 0, 10, .inl (V (20 + k)))) ∧
  (∀ k, k < 4 → F (19 + k) = .inl (G.2.1 0, 10, .inl (V (24 + k)))) ∧
  (∀ k, k < nc → F (100 + k) = .inr (0, [.int (nI k), .int (V 0 k), .int (V 1 k), .int (V 2 k), .int (V 3 k), .int (V 4 k), .int (V 5 k), .int (V 6 k)])) ∧
  (∀ k, k < nr → F (200 + k) = .inr (2, [.int (nI k), .int (V 7 k), .int (V 8 k), .int (V 9 k), .int (V 10 k), .int (V 11 k), .int (V 12 k)])) ∧
  (∀ i, i < 23 → N i) ∧
  (∀ k, k < nc → N (100 + k)) ∧
  (∀ k, k < nr → N (200 + k))
theorem ck_C.nc {G : ck_G} {ad : Nat → Nat} {V : Nat → Nat → Int32} {L : Nat → Nat → Int64} {nc nr : Nat} {N : Nat → Prop} {F : Nat → va_E} (h : ck_C G ad V L nc nr N F) : nc ≤ 60 := h.1
theorem ck_C.nr {G : ck_G} {ad : Nat → Nat} {V : Nat → Nat → Int32} {L : Nat → Nat → Int64} {nc nr : Nat} {N : Nat → Prop} {F : Nat → va_E} (h : ck_C G ad V L nc nr N F) : nr ≤ 30 := h.2.1
theorem ck_C.f0 {G : ck_G} {ad : Nat → Nat} {V : Nat → Nat → Int32} {L : Nat → Nat → Int64} {nc nr : Nat} {N : Nat → Prop} {F : Nat → va_E} (h : ck_C G ad V L nc nr N F) : F 0 = .inr (4, [.ref (ad 1), .ref (ad 2), .int (nI nc), .int (V 13 0), .ref (ad 3), .int (nI nr), .int (V 13 1), .ref (ad 4)]) := h.2.2.1
theorem ck_C.f1 {G : ck_G} {ad : Nat → Nat} {V : Nat → Nat → Int32} {L : Nat → Nat → Int64} {nc nr : Nat} {N : Nat → Prop} {F : Nat → va_E} (h : ck_C G ad V L nc nr N F) : ∃ f, F 1 = .inl (G.2.1 5, 3, .inr (.inr (.inr (.inr f)))) ∧ ∀ k, k < 3 → f k = some (ad (5 + k)) := h.2.2.2.1
theorem ck_C.f2 {G : ck_G} {ad : Nat → Nat} {V : Nat → Nat → Int32} {L : Nat → Nat → Int64} {nc nr : Nat} {N : Nat → Prop} {F : Nat → va_E} (h : ck_C G ad V L nc nr N F) : ∃ f, F 2 = .inl (G.2.1 2, 60, .inr (.inr (.inr (.inr f)))) ∧ ∀ k, k < 60 → f k = if k < nc then some (ad (100 + k)) else none := h.2.2.2.2.1
theorem ck_C.f3 {G : ck_G} {ad : Nat → Nat} {V : Nat → Nat → Int32} {L : Nat → Nat → Int64} {nc nr : Nat} {N : Nat → Prop} {F : Nat → va_E} (h : ck_C G ad V L nc nr N F) : ∃ f, F 3 = .inl (G.2.1 4, 30, .inr (.inr (.inr (.inr f)))) ∧ ∀ k, k < 30 → f k = if k < nr then some (ad (200 + k)) else none := h.2.2.2.2.2.1
theorem ck_C.f4 {G : ck_G} {ad : Nat → Nat} {V : Nat → Nat → Int32} {L : Nat → Nat → Int64} {nc nr : Nat} {N : Nat → Prop} {F : Nat → va_E} (h : ck_C G ad V L nc nr N F) : ∃ f, F 4 = .inl (G.2.1 3, 4, .inr (.inr (.inr (.inr f)))) ∧ ∀ k, k < 4 → f k = some (ad (11 + k)) := h.2.2.2.2.2.2.1
theorem ck_C.src {G : ck_G} {ad : Nat → Nat} {V : Nat → Nat → Int32} {L : Nat → Nat → Int64} {nc nr : Nat} {N : Nat → Prop} {F : Nat → va_E} (h : ck_C G ad V L nc nr N F) : ∀ k, k < 3 → F (5 + k) = .inr (3, [.ref (ad (8 + k)), .int (V 14 k), .int (V 16 k), .int (V 17 k), .int (V 15 k)]) := h.2.2.2.2.2.2.2.1
theorem ck_C.del {G : ck_G} {ad : Nat → Nat} {V : Nat → Nat → Int32} {L : Nat → Nat → Int64} {nc nr : Nat} {N : Nat → Prop} {F : Nat → va_E} (h : ck_C G ad V L nc nr N F) : ∀ k, k < 3 → F (8 + k) = .inl (G.2.1 1, 157, .inr (.inl (L k))) := h.2.2.2.2.2.2.2.2.1
theorem ck_C.car {G : ck_G} {ad : Nat → Nat} {V : Nat → Nat → Int32} {L : Nat → Nat → Int64} {nc nr : Nat} {N : Nat → Prop} {F : Nat → va_E} (h : ck_C G ad V L nc nr N F) : ∀ k, k < 4 → F (11 + k) = .inr (1, [.ref (ad (15 + k)), .ref (ad (19 + k))]) := h.2.2.2.2.2.2.2.2.2.1
theorem ck_C.pre {G : ck_G} {ad : Nat → Nat} {V : Nat → Nat → Int32} {L : Nat → Nat → Int64} {nc nr : Nat} {N : Nat → Prop} {F : Nat → va_E} (h : ck_C G ad V L nc nr N F) : ∀ k, k < 4 → F (15 + k) = .inl (G.2.1 0, 10, .inl (V (20 + k))) := h.2.2.2.2.2.2.2.2.2.2.1
theorem ck_C.pri {G : ck_G} {ad : Nat → Nat} {V : Nat → Nat → Int32} {L : Nat → Nat → Int64} {nc nr : Nat} {N : Nat → Prop} {F : Nat → va_E} (h : ck_C G ad V L nc nr N F) : ∀ k, k < 4 → F (19 + k) = .inl (G.2.1 0, 10, .inl (V (24 + k))) := h.2.2.2.2.2.2.2.2.2.2.2.1
theorem ck_C.call {G : ck_G} {ad : Nat → Nat} {V : Nat → Nat → Int32} {L : Nat → Nat → Int64} {nc nr : Nat} {N : Nat → Prop} {F : Nat → va_E} (h : ck_C G ad V L nc nr N F) : ∀ k, k < nc → F (100 + k) = .inr (0, [.int (nI k), .int (V 0 k), .int (V 1 k), .int (V 2 k), .int (V 3 k), .int (V 4 k), .int (V 5 k), .int (V 6 k)]) := h.2.2.2.2.2.2.2.2.2.2.2.2.1
theorem ck_C.rate {G : ck_G} {ad : Nat → Nat} {V : Nat → Nat → Int32} {L : Nat → Nat → Int64} {nc nr : Nat} {N : Nat → Prop} {F : Nat → va_E} (h : ck_C G ad V L nc nr N F) : ∀ k, k < nr → F (200 + k) = .inr (2, [.int (nI k), .int (V 7 k), .int (V 8 k), .int (V 9 k), .int (V 10 k), .int (V 11 k), .int (V 12 k)]) := h.2.2.2.2.2.2.2.2.2.2.2.2.2.1
theorem ck_C.n {G : ck_G} {ad : Nat → Nat} {V : Nat → Nat → Int32} {L : Nat → Nat → Int64} {nc nr : Nat} {N : Nat → Prop} {F : Nat → va_E} (h : ck_C G ad V L nc nr N F) : ∀ i, i < 23 → N i := h.2.2.2.2.2.2.2.2.2.2.2.2.2.2.1
theorem ck_C.ncall {G : ck_G} {ad : Nat → Nat} {V : Nat → Nat → Int32} {L : Nat → Nat → Int64} {nc nr : Nat} {N : Nat → Prop} {F : Nat → va_E} (h : ck_C G ad V L nc nr N F) : ∀ k, k < nc → N (100 + k) := h.2.2.2.2.2.2.2.2.2.2.2.2.2.2.2.1
theorem ck_C.nrate {G : ck_G} {ad : Nat → Nat} {V : Nat → Nat → Int32} {L : Nat → Nat → Int64} {nc nr : Nat} {N : Nat → Prop} {F : Nat → va_E} (h : ck_C G ad V L nc nr N F) : ∀ k, k < nr → N (200 + k) := h.2.2.2.2.2.2.2.2.2.2.2.2.2.2.2.2
def ck_M (G : ck_G) (ad : Nat → Nat) (V : Nat → Nat → Int32) (L : Nat → Nat → Int64) (nc nr : Nat) (t : Int32) (N : Nat → Prop) (F : Nat → va_E) : Prop :=
  (nc ≤ 60) ∧
  (nr ≤ 30) ∧
  (F 30 = .inr (5, [.int (V 13 0), .ref (ad 31), .ref (ad 32), .ref (ad 33), .ref (ad 34), .ref (ad 35), .int (nI nc), .ref (ad 36), .ref (ad 37), .ref (ad 38), .ref (ad 39), .ref (ad 40), .ref (ad 41), .ref (ad 42), .int (V 13 1), .int (nI nr), .ref (ad 43), .ref (ad 44), .ref (ad 45), .ref (ad 46), .ref (ad 47), .ref (ad 48), .ref (ad 49), .ref (ad 50), .ref (ad 51), .int t])) ∧
  (∃ f, F 31 = .inl (G.2.1 1, 471, .inr (.inl f)) ∧ ∀ q w, q < 3 → w < 157 → f (157 * q + w) = L q w) ∧
  (F 32 = .inl (G.2.1 0, 3, .inl (V 14))) ∧
  (F 33 = .inl (G.2.1 0, 3, .inl (V 18))) ∧
  (F 34 = .inl (G.2.1 0, 3, .inl (V 19))) ∧
  (F 35 = .inl (G.2.1 0, 3, .inl (V 15))) ∧
  (F 36 = .inl (G.2.1 0, 60, .inl (V 0))) ∧
  (F 37 = .inl (G.2.1 0, 60, .inl (V 1))) ∧
  (F 38 = .inl (G.2.1 0, 60, .inl (V 2))) ∧
  (F 39 = .inl (G.2.1 0, 60, .inl (V 4))) ∧
  (F 40 = .inl (G.2.1 0, 60, .inl (V 3))) ∧
  (F 41 = .inl (G.2.1 0, 60, .inl (V 5))) ∧
  (F 42 = .inl (G.2.1 0, 60, .inl (V 6))) ∧
  (F 43 = .inl (G.2.1 0, 30, .inl (V 7))) ∧
  (F 44 = .inl (G.2.1 0, 30, .inl (V 8))) ∧
  (F 45 = .inl (G.2.1 0, 30, .inl (V 9))) ∧
  (F 46 = .inl (G.2.1 0, 30, .inl (V 10))) ∧
  (F 47 = .inl (G.2.1 0, 30, .inl (V 11))) ∧
  (F 48 = .inl (G.2.1 0, 30, .inl (V 12))) ∧
  (F 49 = .inl (G.2.1 0, 4, .inl (V 28))) ∧
  (F 50 = .inl (G.2.1 0, 40, .inl (V 29))) ∧
  (F 51 = .inl (G.2.1 0, 40, .inl (V 30))) ∧
  (∀ i, 30 ≤ i → i < 52 → N i)
theorem ck_M.nc {G : ck_G} {ad : Nat → Nat} {V : Nat → Nat → Int32} {L : Nat → Nat → Int64} {nc nr : Nat} {t : Int32} {N : Nat → Prop} {F : Nat → va_E} (h : ck_M G ad V L nc nr t N F) : nc ≤ 60 := h.1
theorem ck_M.nr {G : ck_G} {ad : Nat → Nat} {V : Nat → Nat → Int32} {L : Nat → Nat → Int64} {nc nr : Nat} {t : Int32} {N : Nat → Prop} {F : Nat → va_E} (h : ck_M G ad V L nc nr t N F) : nr ≤ 30 := h.2.1
theorem ck_M.f30 {G : ck_G} {ad : Nat → Nat} {V : Nat → Nat → Int32} {L : Nat → Nat → Int64} {nc nr : Nat} {t : Int32} {N : Nat → Prop} {F : Nat → va_E} (h : ck_M G ad V L nc nr t N F) : F 30 = .inr (5, [.int (V 13 0), .ref (ad 31), .ref (ad 32), .ref (ad 33), .ref (ad 34), .ref (ad 35), .int (nI nc), .ref (ad 36), .ref (ad 37), .ref (ad 38), .ref (ad 39), .ref (ad 40), .ref (ad 41), .ref (ad 42), .int (V 13 1), .int (nI nr), .ref (ad 43), .ref (ad 44), .ref (ad 45), .ref (ad 46), .ref (ad 47), .ref (ad 48), .ref (ad 49), .ref (ad 50), .ref (ad 51), .int t]) := h.2.2.1
theorem ck_M.f31 {G : ck_G} {ad : Nat → Nat} {V : Nat → Nat → Int32} {L : Nat → Nat → Int64} {nc nr : Nat} {t : Int32} {N : Nat → Prop} {F : Nat → va_E} (h : ck_M G ad V L nc nr t N F) : ∃ f, F 31 = .inl (G.2.1 1, 471, .inr (.inl f)) ∧ ∀ q w, q < 3 → w < 157 → f (157 * q + w) = L q w := h.2.2.2.1
theorem ck_M.f32 {G : ck_G} {ad : Nat → Nat} {V : Nat → Nat → Int32} {L : Nat → Nat → Int64} {nc nr : Nat} {t : Int32} {N : Nat → Prop} {F : Nat → va_E} (h : ck_M G ad V L nc nr t N F) : F 32 = .inl (G.2.1 0, 3, .inl (V 14)) := h.2.2.2.2.1
theorem ck_M.f33 {G : ck_G} {ad : Nat → Nat} {V : Nat → Nat → Int32} {L : Nat → Nat → Int64} {nc nr : Nat} {t : Int32} {N : Nat → Prop} {F : Nat → va_E} (h : ck_M G ad V L nc nr t N F) : F 33 = .inl (G.2.1 0, 3, .inl (V 18)) := h.2.2.2.2.2.1
theorem ck_M.f34 {G : ck_G} {ad : Nat → Nat} {V : Nat → Nat → Int32} {L : Nat → Nat → Int64} {nc nr : Nat} {t : Int32} {N : Nat → Prop} {F : Nat → va_E} (h : ck_M G ad V L nc nr t N F) : F 34 = .inl (G.2.1 0, 3, .inl (V 19)) := h.2.2.2.2.2.2.1
theorem ck_M.f35 {G : ck_G} {ad : Nat → Nat} {V : Nat → Nat → Int32} {L : Nat → Nat → Int64} {nc nr : Nat} {t : Int32} {N : Nat → Prop} {F : Nat → va_E} (h : ck_M G ad V L nc nr t N F) : F 35 = .inl (G.2.1 0, 3, .inl (V 15)) := h.2.2.2.2.2.2.2.1
theorem ck_M.f36 {G : ck_G} {ad : Nat → Nat} {V : Nat → Nat → Int32} {L : Nat → Nat → Int64} {nc nr : Nat} {t : Int32} {N : Nat → Prop} {F : Nat → va_E} (h : ck_M G ad V L nc nr t N F) : F 36 = .inl (G.2.1 0, 60, .inl (V 0)) := h.2.2.2.2.2.2.2.2.1
theorem ck_M.f37 {G : ck_G} {ad : Nat → Nat} {V : Nat → Nat → Int32} {L : Nat → Nat → Int64} {nc nr : Nat} {t : Int32} {N : Nat → Prop} {F : Nat → va_E} (h : ck_M G ad V L nc nr t N F) : F 37 = .inl (G.2.1 0, 60, .inl (V 1)) := h.2.2.2.2.2.2.2.2.2.1
theorem ck_M.f38 {G : ck_G} {ad : Nat → Nat} {V : Nat → Nat → Int32} {L : Nat → Nat → Int64} {nc nr : Nat} {t : Int32} {N : Nat → Prop} {F : Nat → va_E} (h : ck_M G ad V L nc nr t N F) : F 38 = .inl (G.2.1 0, 60, .inl (V 2)) := h.2.2.2.2.2.2.2.2.2.2.1
theorem ck_M.f39 {G : ck_G} {ad : Nat → Nat} {V : Nat → Nat → Int32} {L : Nat → Nat → Int64} {nc nr : Nat} {t : Int32} {N : Nat → Prop} {F : Nat → va_E} (h : ck_M G ad V L nc nr t N F) : F 39 = .inl (G.2.1 0, 60, .inl (V 4)) := h.2.2.2.2.2.2.2.2.2.2.2.1
theorem ck_M.f40 {G : ck_G} {ad : Nat → Nat} {V : Nat → Nat → Int32} {L : Nat → Nat → Int64} {nc nr : Nat} {t : Int32} {N : Nat → Prop} {F : Nat → va_E} (h : ck_M G ad V L nc nr t N F) : F 40 = .inl (G.2.1 0, 60, .inl (V 3)) := h.2.2.2.2.2.2.2.2.2.2.2.2.1
theorem ck_M.f41 {G : ck_G} {ad : Nat → Nat} {V : Nat → Nat → Int32} {L : Nat → Nat → Int64} {nc nr : Nat} {t : Int32} {N : Nat → Prop} {F : Nat → va_E} (h : ck_M G ad V L nc nr t N F) : F 41 = .inl (G.2.1 0, 60, .inl (V 5)) := h.2.2.2.2.2.2.2.2.2.2.2.2.2.1
theorem ck_M.f42 {G : ck_G} {ad : Nat → Nat} {V : Nat → Nat → Int32} {L : Nat → Nat → Int64} {nc nr : Nat} {t : Int32} {N : Nat → Prop} {F : Nat → va_E} (h : ck_M G ad V L nc nr t N F) : F 42 = .inl (G.2.1 0, 60, .inl (V 6)) := h.2.2.2.2.2.2.2.2.2.2.2.2.2.2.1
theorem ck_M.f43 {G : ck_G} {ad : Nat → Nat} {V : Nat → Nat → Int32} {L : Nat → Nat → Int64} {nc nr : Nat} {t : Int32} {N : Nat → Prop} {F : Nat → va_E} (h : ck_M G ad V L nc nr t N F) : F 43 = .inl (G.2.1 0, 30, .inl (V 7)) := h.2.2.2.2.2.2.2.2.2.2.2.2.2.2.2.1
theorem ck_M.f44 {G : ck_G} {ad : Nat → Nat} {V : Nat → Nat → Int32} {L : Nat → Nat → Int64} {nc nr : Nat} {t : Int32} {N : Nat → Prop} {F : Nat → va_E} (h : ck_M G ad V L nc nr t N F) : F 44 = .inl (G.2.1 0, 30, .inl (V 8)) := h.2.2.2.2.2.2.2.2.2.2.2.2.2.2.2.2.1
theorem ck_M.f45 {G : ck_G} {ad : Nat → Nat} {V : Nat → Nat → Int32} {L : Nat → Nat → Int64} {nc nr : Nat} {t : Int32} {N : Nat → Prop} {F : Nat → va_E} (h : ck_M G ad V L nc nr t N F) : F 45 = .inl (G.2.1 0, 30, .inl (V 9)) := h.2.2.2.2.2.2.2.2.2.2.2.2.2.2.2.2.2.1
theorem ck_M.f46 {G : ck_G} {ad : Nat → Nat} {V : Nat → Nat → Int32} {L : Nat → Nat → Int64} {nc nr : Nat} {t : Int32} {N : Nat → Prop} {F : Nat → va_E} (h : ck_M G ad V L nc nr t N F) : F 46 = .inl (G.2.1 0, 30, .inl (V 10)) := h.2.2.2.2.2.2.2.2.2.2.2.2.2.2.2.2.2.2.1
theorem ck_M.f47 {G : ck_G} {ad : Nat → Nat} {V : Nat → Nat → Int32} {L : Nat → Nat → Int64} {nc nr : Nat} {t : Int32} {N : Nat → Prop} {F : Nat → va_E} (h : ck_M G ad V L nc nr t N F) : F 47 = .inl (G.2.1 0, 30, .inl (V 11)) := h.2.2.2.2.2.2.2.2.2.2.2.2.2.2.2.2.2.2.2.1
theorem ck_M.f48 {G : ck_G} {ad : Nat → Nat} {V : Nat → Nat → Int32} {L : Nat → Nat → Int64} {nc nr : Nat} {t : Int32} {N : Nat → Prop} {F : Nat → va_E} (h : ck_M G ad V L nc nr t N F) : F 48 = .inl (G.2.1 0, 30, .inl (V 12)) := h.2.2.2.2.2.2.2.2.2.2.2.2.2.2.2.2.2.2.2.2.1
theorem ck_M.f49 {G : ck_G} {ad : Nat → Nat} {V : Nat → Nat → Int32} {L : Nat → Nat → Int64} {nc nr : Nat} {t : Int32} {N : Nat → Prop} {F : Nat → va_E} (h : ck_M G ad V L nc nr t N F) : F 49 = .inl (G.2.1 0, 4, .inl (V 28)) := h.2.2.2.2.2.2.2.2.2.2.2.2.2.2.2.2.2.2.2.2.2.1
theorem ck_M.f50 {G : ck_G} {ad : Nat → Nat} {V : Nat → Nat → Int32} {L : Nat → Nat → Int64} {nc nr : Nat} {t : Int32} {N : Nat → Prop} {F : Nat → va_E} (h : ck_M G ad V L nc nr t N F) : F 50 = .inl (G.2.1 0, 40, .inl (V 29)) := h.2.2.2.2.2.2.2.2.2.2.2.2.2.2.2.2.2.2.2.2.2.2.1
theorem ck_M.f51 {G : ck_G} {ad : Nat → Nat} {V : Nat → Nat → Int32} {L : Nat → Nat → Int64} {nc nr : Nat} {t : Int32} {N : Nat → Prop} {F : Nat → va_E} (h : ck_M G ad V L nc nr t N F) : F 51 = .inl (G.2.1 0, 40, .inl (V 30)) := h.2.2.2.2.2.2.2.2.2.2.2.2.2.2.2.2.2.2.2.2.2.2.2.1
theorem ck_M.n {G : ck_G} {ad : Nat → Nat} {V : Nat → Nat → Int32} {L : Nat → Nat → Int64} {nc nr : Nat} {t : Int32} {N : Nat → Prop} {F : Nat → va_E} (h : ck_M G ad V L nc nr t N F) : ∀ i, 30 ≤ i → i < 52 → N i := h.2.2.2.2.2.2.2.2.2.2.2.2.2.2.2.2.2.2.2.2.2.2.2.2
def ck_ok (x : Int32) (n : Nat) : Prop := 0 ≤ x ∧ x < nI n
theorem ck_ok_neg {x : Int32} {n : Nat} (h : x < 0) : ¬ ck_ok x n := fun z => absurd z.1 (Int32.not_le.mpr h)
theorem ck_ok_big {x : Int32} {n m : Nat} (h : nI m ≤ x) (hm : m < 2 ^ 31) (hn : n ≤ m) : ¬ ck_ok x n := fun z => by
  have h1 := z.2
  have h2 : nI n ≤ nI m := nI_le hn hm
  exact absurd (Int32.lt_of_lt_of_le h1 (Int32.le_trans h2 h)) Int32.lt_irrefl
theorem ck_ok_of {x : Int32} {n : Nat} (h : ¬ x < 0) (h2 : ¬ nI n ≤ x) (hn : n < 2 ^ 31) : ∃ j, j < n ∧ x = nI j := by
  rcases pk_ix x hn with h3 | h3 | h3
  · exact absurd h3 h
  · exact absurd h3 h2
  · exact h3
theorem ck_ok_nI {j n : Nat} (h : j < n) (hn : n < 2 ^ 31) : ck_ok (nI j) n := ⟨nI_pos' (by omega), nI_lt h hn⟩
set_option maxHeartbeats 4000000 in
set_option maxRecDepth 100000 in
theorem ct_X4_sourceAt (l : Launch) (G : ck_G) (H : Heap) (ad : Nat → Nat) (N : Nat → Prop) (F : Nat → va_E) (hW : ck_W G ad N F H) (V : Nat → Nat → Int32) (L : Nat → Nat → Int64) (nc nr : Nat) (hC : ck_C G ad V L nc nr N F) (a0 : Int32) : Met l yX4_sourceAt wsX4_sourceAt ({ frames := 0, cells := 0, slots := 0, locals := 0 }) (ck_P G H [.ref (ad 0), .int a0]) (va_Sq (fun r => (∃ j, j < 3 ∧ a0 = nI j ∧ r = some (ad (5 + j))) ∨ (¬ ck_ok a0 3 ∧ r = none))) 0 0 (fun _ => False) := by
  refine Met.ofW (cc := cX4_sourceAt) (maxL := 2) (ret := (some (.object "CarrierDesk$Source"))) (by decide) rfl ?_
  intro p e s m args below meth c s₁ B hml hv
  obtain ⟨rfl, hH, hKK⟩ := hv
  subst hH
  have hx := B.exec
  have hb := B.bytes
  have hr := B.returns
  have hts := atoms_spec (ws := wsX4_sourceAt) B.pre
  have hown : s.vm.findClass RX4 = some m.cls := findClass_of_methodNamed B.named
  have hlocks := B.notSynchronized
  have hKK0 := hKK
  have hK := hKK.1.1
  have hinX4 : ∀ w ∈ u_ws RX4 TX4 8, w ∈ wsX4_sourceAt := by decide +kernel
  have hl := lv_entry ([.ref (ad 0), .int a0]) (n := 2) (Nat.le_of_ble_eq_true rfl)
  rw [lg_entry_eq]
  generalize (lg_sl ([.ref (ad 0), .int a0]) ++ List.replicate (2 - (lg_sl ([.ref (ad 0), .int a0])).length) Slot.unset).toArray = ls at hl ⊢
  have hl : lv_has ls 2 [(0, .ref (ad 0)), (1, .int a0)] := hl
  obtain ⟨g1, hG1, hg1⟩ := hC.f1
  refine lv_iload_n hx hb dX4_sourceAt_0 rfl (lv_at hl 1 rfl) ?_
  refine lv_if_lt (tgt := 22) hx hb dX4_sourceAt_1 (by decide) (fun c_1 => ?_) (fun c_1 => ?_)
  · skip
    refine lv_null hx hb dX4_sourceAt_22 ?_
    exact W.aret (v := va_rf (none)) hx hb hr (Or.inl ⟨_, rfl⟩) (va_rf_or _) (fun t ht hW9 => ⟨none, rfl, Or.inr ⟨ck_ok_neg c_1, rfl⟩, ht⟩) (fun _ h => nomatch h) dX4_sourceAt_23
  · skip
    refine lv_iload_n hx hb dX4_sourceAt_4 rfl (lv_at hl 1 rfl) ?_
    refine lv_aload_n hx hb dX4_sourceAt_5 rfl (lv_at hl 0 rfl) ?_
    refine ck_get (v := .ref (ad 1)) hx hb hts hinX4 hown hK hW (hC.n 0 (by decide)) hC.f0 rfl 0 (by decide) (hts _ (List.mem_of_getElem? (i := 1) rfl)) rfl rfl dX4_sourceAt_6 ?_
    refine ck_alen (v := 3) hx hb hK hW (hC.n 1 (by decide)) hG1 5 rfl rfl dX4_sourceAt_9 ?_
    refine lv_icmp_ge (tgt := 22) hx hb dX4_sourceAt_10 (by decide) (fun c_10 => ?_) (fun c_10 => ?_)
    · skip
      refine lv_null hx hb dX4_sourceAt_22 ?_
      exact W.aret (v := va_rf (none)) hx hb hr (Or.inl ⟨_, rfl⟩) (va_rf_or _) (fun t ht hW9 => ⟨none, rfl, Or.inr ⟨ck_ok_big (m := 3) c_10 (by decide) (by decide), rfl⟩, ht⟩) (fun _ h => nomatch h) dX4_sourceAt_23
    · skip
      refine lv_aload_n hx hb dX4_sourceAt_13 rfl (lv_at hl 0 rfl) ?_
      refine ck_get (v := .ref (ad 1)) hx hb hts hinX4 hown hK hW (hC.n 0 (by decide)) hC.f0 rfl 0 (by decide) (hts _ (List.mem_of_getElem? (i := 1) rfl)) rfl rfl dX4_sourceAt_14 ?_
      refine lv_iload_n hx hb dX4_sourceAt_17 rfl (lv_at hl 1 rfl) ?_
      obtain ⟨j, hj, rfl⟩ := ck_ok_of c_1 c_10 (n := 3) (by decide)
      refine ck_aald hx hb hK hW (hC.n 1 (by decide)) hG1 5 rfl j (rfl) (hj) (by decide) (r := some (ad (5 + j))) (hg1 j hj) dX4_sourceAt_18 ?_
      refine lv_goto (tgt := 23) hx hb dX4_sourceAt_19 (by decide) ?_
      exact W.aret (v := va_rf (some ((ad (5 + j))))) hx hb hr (Or.inl ⟨_, rfl⟩) (va_rf_or _) (fun t ht hW9 => ⟨some ((ad (5 + j))), rfl, Or.inl ⟨j, hj, rfl, rfl⟩, ht⟩) (fun _ h => nomatch h) dX4_sourceAt_23
set_option maxHeartbeats 4000000 in
set_option maxRecDepth 100000 in
theorem ct_X4_callAt (l : Launch) (G : ck_G) (H : Heap) (ad : Nat → Nat) (N : Nat → Prop) (F : Nat → va_E) (hW : ck_W G ad N F H) (V : Nat → Nat → Int32) (L : Nat → Nat → Int64) (nc nr : Nat) (hC : ck_C G ad V L nc nr N F) (a0 : Int32) : Met l yX4_callAt wsX4_callAt ({ frames := 0, cells := 0, slots := 0, locals := 0 }) (ck_P G H [.ref (ad 0), .int a0]) (va_Sq (fun r => (∃ j, j < nc ∧ a0 = nI j ∧ r = some (ad (100 + j))) ∨ (¬ ck_ok a0 nc ∧ r = none))) 0 0 (fun _ => False) := by
  refine Met.ofW (cc := cX4_callAt) (maxL := 2) (ret := (some (.object "CarrierDesk$Call"))) (by decide) rfl ?_
  intro p e s m args below meth c s₁ B hml hv
  obtain ⟨rfl, hH, hKK⟩ := hv
  subst hH
  have hx := B.exec
  have hb := B.bytes
  have hr := B.returns
  have hts := atoms_spec (ws := wsX4_callAt) B.pre
  have hown : s.vm.findClass RX4 = some m.cls := findClass_of_methodNamed B.named
  have hlocks := B.notSynchronized
  have hKK0 := hKK
  have hK := hKK.1.1
  have hinX4 : ∀ w ∈ u_ws RX4 TX4 8, w ∈ wsX4_callAt := by decide +kernel
  have hl := lv_entry ([.ref (ad 0), .int a0]) (n := 2) (Nat.le_of_ble_eq_true rfl)
  rw [lg_entry_eq]
  generalize (lg_sl ([.ref (ad 0), .int a0]) ++ List.replicate (2 - (lg_sl ([.ref (ad 0), .int a0])).length) Slot.unset).toArray = ls at hl ⊢
  have hl : lv_has ls 2 [(0, .ref (ad 0)), (1, .int a0)] := hl
  obtain ⟨g2, hG2, hg2⟩ := hC.f2
  refine lv_iload_n hx hb dX4_callAt_0 rfl (lv_at hl 1 rfl) ?_
  refine lv_if_lt (tgt := 22) hx hb dX4_callAt_1 (by decide) (fun c_1 => ?_) (fun c_1 => ?_)
  · skip
    refine lv_null hx hb dX4_callAt_22 ?_
    exact W.aret (v := va_rf (none)) hx hb hr (Or.inl ⟨_, rfl⟩) (va_rf_or _) (fun t ht hW9 => ⟨none, rfl, Or.inr ⟨ck_ok_neg c_1, rfl⟩, ht⟩) (fun _ h => nomatch h) dX4_callAt_23
  · skip
    refine lv_iload_n hx hb dX4_callAt_4 rfl (lv_at hl 1 rfl) ?_
    refine lv_aload_n hx hb dX4_callAt_5 rfl (lv_at hl 0 rfl) ?_
    refine ck_get (v := .ref (ad 2)) hx hb hts hinX4 hown hK hW (hC.n 0 (by decide)) hC.f0 rfl 1 (by decide) (hts _ (List.mem_of_getElem? (i := 1) rfl)) rfl rfl dX4_callAt_6 ?_
    refine ck_alen (v := 60) hx hb hK hW (hC.n 2 (by decide)) hG2 2 rfl rfl dX4_callAt_9 ?_
    refine lv_icmp_ge (tgt := 22) hx hb dX4_callAt_10 (by decide) (fun c_10 => ?_) (fun c_10 => ?_)
    · skip
      refine lv_null hx hb dX4_callAt_22 ?_
      exact W.aret (v := va_rf (none)) hx hb hr (Or.inl ⟨_, rfl⟩) (va_rf_or _) (fun t ht hW9 => ⟨none, rfl, Or.inr ⟨ck_ok_big (m := 60) c_10 (by decide) hC.nc, rfl⟩, ht⟩) (fun _ h => nomatch h) dX4_callAt_23
    · skip
      refine lv_aload_n hx hb dX4_callAt_13 rfl (lv_at hl 0 rfl) ?_
      refine ck_get (v := .ref (ad 2)) hx hb hts hinX4 hown hK hW (hC.n 0 (by decide)) hC.f0 rfl 1 (by decide) (hts _ (List.mem_of_getElem? (i := 1) rfl)) rfl rfl dX4_callAt_14 ?_
      refine lv_iload_n hx hb dX4_callAt_17 rfl (lv_at hl 1 rfl) ?_
      obtain ⟨j, hj, rfl⟩ := ck_ok_of c_1 c_10 (n := 60) (by decide)
      by_cases hjn : j < nc
      · skip
        refine ck_aald hx hb hK hW (hC.n 2 (by decide)) hG2 2 rfl j (rfl) (hj) (by decide) (r := some (ad (100 + j))) (by rw [hg2 j hj, if_pos hjn]) dX4_callAt_18 ?_
        refine lv_goto (tgt := 23) hx hb dX4_callAt_19 (by decide) ?_
        exact W.aret (v := va_rf (some ((ad (100 + j))))) hx hb hr (Or.inl ⟨_, rfl⟩) (va_rf_or _) (fun t ht hW9 => ⟨some ((ad (100 + j))), rfl, Or.inl ⟨j, hjn, rfl, rfl⟩, ht⟩) (fun _ h => nomatch h) dX4_callAt_23
      · skip
        refine ck_aald hx hb hK hW (hC.n 2 (by decide)) hG2 2 rfl j (rfl) (hj) (by decide) (r := none) (by rw [hg2 j hj, if_neg hjn]) dX4_callAt_18 ?_
        refine lv_goto (tgt := 23) hx hb dX4_callAt_19 (by decide) ?_
        exact W.aret (v := va_rf (none)) hx hb hr (Or.inl ⟨_, rfl⟩) (va_rf_or _) (fun t ht hW9 => ⟨none, rfl, Or.inr ⟨fun z => hjn ((nI_ltI (by omega) (by have := hC.nc; omega)).mp z.2), rfl⟩, ht⟩) (fun _ h => nomatch h) dX4_callAt_23
set_option maxHeartbeats 4000000 in
set_option maxRecDepth 100000 in
theorem ct_X4_carrierAt (l : Launch) (G : ck_G) (H : Heap) (ad : Nat → Nat) (N : Nat → Prop) (F : Nat → va_E) (hW : ck_W G ad N F H) (V : Nat → Nat → Int32) (L : Nat → Nat → Int64) (nc nr : Nat) (hC : ck_C G ad V L nc nr N F) (a0 : Int32) : Met l yX4_carrierAt wsX4_carrierAt ({ frames := 0, cells := 0, slots := 0, locals := 0 }) (ck_P G H [.ref (ad 0), .int a0]) (va_Sq (fun r => (∃ j, j < 4 ∧ a0 = nI j ∧ r = some (ad (11 + j))) ∨ (¬ ck_ok a0 4 ∧ r = none))) 0 0 (fun _ => False) := by
  refine Met.ofW (cc := cX4_carrierAt) (maxL := 2) (ret := (some (.object "CarrierDesk$Carrier"))) (by decide) rfl ?_
  intro p e s m args below meth c s₁ B hml hv
  obtain ⟨rfl, hH, hKK⟩ := hv
  subst hH
  have hx := B.exec
  have hb := B.bytes
  have hr := B.returns
  have hts := atoms_spec (ws := wsX4_carrierAt) B.pre
  have hown : s.vm.findClass RX4 = some m.cls := findClass_of_methodNamed B.named
  have hlocks := B.notSynchronized
  have hKK0 := hKK
  have hK := hKK.1.1
  have hinX4 : ∀ w ∈ u_ws RX4 TX4 8, w ∈ wsX4_carrierAt := by decide +kernel
  have hl := lv_entry ([.ref (ad 0), .int a0]) (n := 2) (Nat.le_of_ble_eq_true rfl)
  rw [lg_entry_eq]
  generalize (lg_sl ([.ref (ad 0), .int a0]) ++ List.replicate (2 - (lg_sl ([.ref (ad 0), .int a0])).length) Slot.unset).toArray = ls at hl ⊢
  have hl : lv_has ls 2 [(0, .ref (ad 0)), (1, .int a0)] := hl
  obtain ⟨g4, hG4, hg4⟩ := hC.f4
  refine lv_iload_n hx hb dX4_carrierAt_0 rfl (lv_at hl 1 rfl) ?_
  refine lv_if_lt (tgt := 22) hx hb dX4_carrierAt_1 (by decide) (fun c_1 => ?_) (fun c_1 => ?_)
  · skip
    refine lv_null hx hb dX4_carrierAt_22 ?_
    exact W.aret (v := va_rf (none)) hx hb hr (Or.inl ⟨_, rfl⟩) (va_rf_or _) (fun t ht hW9 => ⟨none, rfl, Or.inr ⟨ck_ok_neg c_1, rfl⟩, ht⟩) (fun _ h => nomatch h) dX4_carrierAt_23
  · skip
    refine lv_iload_n hx hb dX4_carrierAt_4 rfl (lv_at hl 1 rfl) ?_
    refine lv_aload_n hx hb dX4_carrierAt_5 rfl (lv_at hl 0 rfl) ?_
    refine ck_get (v := .ref (ad 4)) hx hb hts hinX4 hown hK hW (hC.n 0 (by decide)) hC.f0 rfl 7 (by decide) (hts _ (List.mem_of_getElem? (i := 1) rfl)) rfl rfl dX4_carrierAt_6 ?_
    refine ck_alen (v := 4) hx hb hK hW (hC.n 4 (by decide)) hG4 3 rfl rfl dX4_carrierAt_9 ?_
    refine lv_icmp_ge (tgt := 22) hx hb dX4_carrierAt_10 (by decide) (fun c_10 => ?_) (fun c_10 => ?_)
    · skip
      refine lv_null hx hb dX4_carrierAt_22 ?_
      exact W.aret (v := va_rf (none)) hx hb hr (Or.inl ⟨_, rfl⟩) (va_rf_or _) (fun t ht hW9 => ⟨none, rfl, Or.inr ⟨ck_ok_big (m := 4) c_10 (by decide) (by decide), rfl⟩, ht⟩) (fun _ h => nomatch h) dX4_carrierAt_23
    · skip
      refine lv_aload_n hx hb dX4_carrierAt_13 rfl (lv_at hl 0 rfl) ?_
      refine ck_get (v := .ref (ad 4)) hx hb hts hinX4 hown hK hW (hC.n 0 (by decide)) hC.f0 rfl 7 (by decide) (hts _ (List.mem_of_getElem? (i := 1) rfl)) rfl rfl dX4_carrierAt_14 ?_
      refine lv_iload_n hx hb dX4_carrierAt_17 rfl (lv_at hl 1 rfl) ?_
      obtain ⟨j, hj, rfl⟩ := ck_ok_of c_1 c_10 (n := 4) (by decide)
      refine ck_aald hx hb hK hW (hC.n 4 (by decide)) hG4 3 rfl j (rfl) (hj) (by decide) (r := some (ad (11 + j))) (hg4 j hj) dX4_carrierAt_18 ?_
      refine lv_goto (tgt := 23) hx hb dX4_carrierAt_19 (by decide) ?_
      exact W.aret (v := va_rf (some ((ad (11 + j))))) hx hb hr (Or.inl ⟨_, rfl⟩) (va_rf_or _) (fun t ht hW9 => ⟨some ((ad (11 + j))), rfl, Or.inl ⟨j, hj, rfl, rfl⟩, ht⟩) (fun _ h => nomatch h) dX4_carrierAt_23
