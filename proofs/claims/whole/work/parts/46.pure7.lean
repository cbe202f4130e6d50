-- ===== class and reference answer alike: each operation =====
def ck_syn (n : Nat) (kC rC : Int32) (VC : Nat → Nat → Int32) (LC : Nat → Nat → Int64) (ncC nrC : Nat) (kM rM : Int32) (VM : Nat → Nat → Int32) (LM : Nat → Nat → Int64) (ncM nrM : Nat) : Prop := kM = kC ∧ (kC = 0 → rC = rM) ∧ LM = LC ∧ ncM = ncC ∧ nrM = nrC ∧ (∀ i, i < 16 → VC i = VM i) ∧ ck_J (ck_mg VC VM) ncC nrC (n + 1)
def ck_ro (R : Int32 → Int32 → Prop) (V : Nat → Nat → Int32) (L : Nat → Nat → Int64) (nc nr : Nat) : Int32 → Int32 → (Nat → Nat → Int32) → (Nat → Nat → Int64) → Nat → Nat → Prop := fun k r V1 L1 nc1 nr1 => R k r ∧ V1 = V ∧ L1 = L ∧ nc1 = nc ∧ nr1 = nr
def ck_wr (R : Int32 → Int32 → (Nat → Nat → Int32) → Prop) (L : Nat → Nat → Int64) (nc nr : Nat) : Int32 → Int32 → (Nat → Nat → Int32) → (Nat → Nat → Int64) → Nat → Nat → Prop := fun k r V1 L1 nc1 nr1 => R k r V1 ∧ L1 = L ∧ nc1 = nc ∧ nr1 = nr
theorem ck_sy_ro {RC RM : Int32 → Int32 → Prop} {V : Nat → Nat → Int32} {L : Nat → Nat → Int64} {nc nr n : Nat} (hJ : ck_J V nc nr n) (h : ∀ kC rC kM rM, RC kC rC → RM kM rM → kM = kC ∧ (kC = 0 → rC = rM)) {kC rC : Int32} {VC : Nat → Nat → Int32} {LC : Nat → Nat → Int64} {ncC nrC : Nat} {kM rM : Int32} {VM : Nat → Nat → Int32} {LM : Nat → Nat → Int64} {ncM nrM : Nat} (a : ck_ro RC V L nc nr kC rC VC LC ncC nrC) (b : ck_ro RM V L nc nr kM rM VM LM ncM nrM) : ck_syn n kC rC VC LC ncC nrC kM rM VM LM ncM nrM := by
  obtain ⟨a, rfl, rfl, rfl, rfl⟩ := a
  obtain ⟨b, rfl, rfl, rfl, rfl⟩ := b
  have h9 := h _ _ _ _ a b
  exact ⟨h9.1, h9.2, rfl, rfl, rfl, fun _ _ => rfl, by rw [ck_mg_same]; exact hJ.mono (Nat.le_succ n)⟩
theorem ck_sy_wr {RC RM : Int32 → Int32 → (Nat → Nat → Int32) → Prop} {L : Nat → Nat → Int64} {nc nr n : Nat} (h : ∀ kC rC VC kM rM VM, RC kC rC VC → RM kM rM VM → kM = kC ∧ (kC = 0 → rC = rM) ∧ VM = VC ∧ ck_J VC nc nr (n + 1)) {kC rC : Int32} {VC : Nat → Nat → Int32} {LC : Nat → Nat → Int64} {ncC nrC : Nat} {kM rM : Int32} {VM : Nat → Nat → Int32} {LM : Nat → Nat → Int64} {ncM nrM : Nat} (a : ck_wr RC L nc nr kC rC VC LC ncC nrC) (b : ck_wr RM L nc nr kM rM VM LM ncM nrM) : ck_syn n kC rC VC LC ncC nrC kM rM VM LM ncM nrM := by
  obtain ⟨a, rfl, rfl, rfl⟩ := a
  obtain ⟨b, rfl, rfl, rfl⟩ := b
  obtain ⟨h1, h2, rfl, h4⟩ := h _ _ _ _ _ _ a b
  exact ⟨h1, h2, rfl, rfl, rfl, fun _ _ => rfl, by rw [ck_mg_same]; exact h4⟩
theorem ck_kr {k r r1 : Int32} (h : r = r1) : k = k ∧ (k = 0 → r = r1) := ⟨rfl, fun _ => h⟩
theorem ck_u_gaps {V : Nat → Nat → Int32} {n : Nat} (hJ : ck_sJ V n) {a0 kC rC kM rM : Int32} (a : ck_Rgaps (V 14) (V 16) (V 17) a0 kC rC) (b : ck_Rgaps (V 14) (V 18) (V 19) a0 kM rM) : kM = kC ∧ (kC = 0 → rC = rM) := by
  rcases a with ⟨a1, rfl⟩ | ⟨q, hq, rfl, rfl, rfl⟩ <;> rcases b with ⟨b1, rfl⟩ | ⟨q2, hq2, e2, rfl, rfl⟩
  · exact ⟨rfl, fun z => absurd z (by decide)⟩
  · exact absurd (by rw [e2]; exact ck_ok_nI hq2 (by decide)) a1
  · exact absurd (ck_ok_nI hq (by decide)) b1
  · have e3 : q = q2 := (nI_eq (by omega) (by omega)).mp e2
    subst e3
    refine ⟨rfl, fun _ => ?_⟩
    rcases (hJ q hq).2 with ⟨h1, -, -⟩ | ⟨-, h2, h3⟩
    · unfold ck_miss; rw [if_pos h1, if_pos h1]
    · rw [h2, h3]
theorem ck_u_dbl {f : Nat → Int32} {a0 kC rC kM rM : Int32} (a : ck_Rdbl f a0 kC rC) (b : ck_Rdbl f a0 kM rM) : kM = kC ∧ (kC = 0 → rC = rM) := by
  rcases a with ⟨a1, rfl⟩ | ⟨q, hq, rfl, rfl, rfl⟩ <;> rcases b with ⟨b1, rfl⟩ | ⟨q2, hq2, e2, rfl, rfl⟩
  · exact ⟨rfl, fun z => absurd z (by decide)⟩
  · exact absurd (by rw [e2]; exact ck_ok_nI hq2 (by decide)) a1
  · exact absurd (ck_ok_nI hq (by decide)) b1
  · have e3 : q = q2 := (nI_eq (by omega) (by omega)).mp e2
    subst e3
    exact ck_kr rfl
theorem ck_u_call {f : Nat → Int32} {nc : Nat} (hn : nc ≤ 60) {a0 kC rC kM rM : Int32} (a : ck_Rcall nc f a0 kC rC) (b : ck_Rcall nc f a0 kM rM) : kM = kC ∧ (kC = 0 → rC = rM) := by
  rcases a with ⟨a1, rfl⟩ | ⟨q, hq, rfl, rfl, rfl⟩ <;> rcases b with ⟨b1, rfl⟩ | ⟨q2, hq2, e2, rfl, rfl⟩
  · exact ⟨rfl, fun z => absurd z (by decide)⟩
  · exact absurd (by rw [e2]; exact ck_ok_nI hq2 (by omega)) a1
  · exact absurd (ck_ok_nI hq (by omega)) b1
  · have e3 : q = q2 := (nI_eq (by omega) (by omega)).mp e2
    subst e3
    exact ck_kr rfl
theorem ck_u_call2 {f : Nat → Int32} {nc : Nat} (hn : nc ≤ 60) {a0 kC rC kM rM : Int32} (a : ck_Rcall2 nc f a0 kC rC) (b : ck_Rcall2 nc f a0 kM rM) : kM = kC ∧ (kC = 0 → rC = rM) := by
  rcases a with ⟨a1, rfl⟩ | ⟨q, hq, rfl, a2⟩ <;> rcases b with ⟨b1, rfl⟩ | ⟨q2, hq2, e2, b2⟩
  · exact ⟨rfl, fun z => absurd z (by decide)⟩
  · exact absurd (by rw [e2]; exact ck_ok_nI hq2 (by omega)) a1
  · exact absurd (ck_ok_nI hq (by omega)) b1
  · have e3 : q = q2 := (nI_eq (by omega) (by omega)).mp e2
    subst e3
    rcases a2 with ⟨a3, rfl⟩ | ⟨a3, rfl, rfl⟩ <;> rcases b2 with ⟨b3, rfl⟩ | ⟨b3, rfl, rfl⟩
    · exact ⟨rfl, fun z => absurd z (by decide)⟩
    · exact absurd a3 b3
    · exact absurd b3 a3
    · exact ck_kr rfl
theorem ck_u_rate {V : Nat → Nat → Int32} {nr : Nat} {a0 a1 kC rC kM rM : Int32} (a : ck_Rrate V nr a0 a1 kC rC) (b : ck_Rrate V nr a0 a1 kM rM) : kM = kC ∧ (kC = 0 → rC = rM) := by
  rcases a with ⟨a1, rfl⟩ | ⟨a1, ⟨a2, rfl⟩ | ⟨x, a2, a3, rfl, rfl⟩⟩ <;> rcases b with ⟨b1, rfl⟩ | ⟨b1, ⟨b2, rfl⟩ | ⟨y, b2, b3, rfl, rfl⟩⟩
  · exact ⟨rfl, fun z => absurd z (by decide)⟩
  · exact absurd b1 a1
  · exact absurd b1 a1
  · exact absurd a1 b1
  · exact ⟨rfl, fun z => absurd z (by decide)⟩
  · rw [a2] at b3; cases b3
  · exact absurd a1 b1
  · rw [a3] at b2; cases b2
  · rw [a3] at b3; cases b3; exact ck_kr rfl
theorem ck_u_sum {f : Int32 → Int32} {a0 kC rC kM rM : Int32} (a : ck_Rsum f a0 kC rC) (b : ck_Rsum f a0 kM rM) : kM = kC ∧ (kC = 0 → rC = rM) := by
  rcases a with ⟨a1, rfl⟩ | ⟨a1, rfl, rfl⟩ <;> rcases b with ⟨b1, rfl⟩ | ⟨b1, rfl, rfl⟩
  · exact ⟨rfl, fun z => absurd z (by decide)⟩
  · exact absurd b1 a1
  · exact absurd a1 b1
  · exact ck_kr rfl
theorem ck_u_offF {P Q : Nat → Int32} (hP : ∀ i, i < 4 → P i = Q i) {a0 a1 kC rC kM rM : Int32} (a : ck_RoffF P a0 a1 kC rC) (b : ck_RoffF Q a0 a1 kM rM) : kM = kC ∧ (kC = 0 → rC = rM) := by
  rcases a with ⟨a1, rfl⟩ | ⟨q, hq, rfl, a1, a2⟩ <;> rcases b with ⟨b1, rfl⟩ | ⟨q2, hq2, e2, b1, b2⟩
  · exact ⟨rfl, fun z => absurd z (by decide)⟩
  · exact absurd ⟨by rw [e2]; exact ck_ok_nI hq2 (by decide), b1⟩ a1
  · exact absurd ⟨ck_ok_nI hq (by decide), a1⟩ b1
  · have e3 : q = q2 := (nI_eq (by omega) (by omega)).mp e2
    subst e3
    rw [← hP q hq] at b2
    rcases a2 with ⟨a3, rfl⟩ | ⟨a3, rfl, rfl⟩ <;> rcases b2 with ⟨b3, rfl⟩ | ⟨b3, rfl, rfl⟩
    · exact ⟨rfl, fun z => absurd z (by decide)⟩
    · exact absurd a3 b3
    · exact absurd b3 a3
    · exact ck_kr rfl
theorem ck_cbE {P Q : Nat → Int32} (h : ∀ i, i < 4 → P i = Q i) (i : Nat) (x : Int32) : ∀ n, n ≤ 4 → ck_cb P i x n = ck_cb Q i x n
  | 0, _ => rfl
  | n + 1, hn => by simp only [ck_cb]; rw [h n (by omega), ck_cbE h i x n (by omega)]
theorem ck_rkE {P Q : Nat → Int32} (h : ∀ i, i < 4 → P i = Q i) (lim rank : Int32) : ∀ n k, k + n ≤ 4 → ck_rk P lim rank k n = ck_rk Q lim rank k n
  | 0, k, _ => rfl
  | n + 1, k, hk => by simp only [ck_rk]; rw [h k (by omega), ck_cbE h k (Q k) 4 (Nat.le_refl _), ck_rkE h lim rank n (k + 1) (by omega)]
theorem ck_u_route1 {V : Nat → Nat → Int32} {nr : Nat} {Z : Int32 → Int32} {a0 a1 a2 a3 kC rC kM rM : Int32} (a : ck_Rroute V nr Z a0 a1 a2 a3 kC rC) (b : ck_Rroute V nr Z a0 a1 a2 a3 kM rM) : kM = kC ∧ (kC = 0 → rC = rM) := by
  rcases a with ⟨a1, rfl⟩ | ⟨a1, ⟨a2, rfl⟩ | ⟨x, a2, a3, a4⟩⟩ <;> rcases b with ⟨b1, rfl⟩ | ⟨b1, ⟨b2, rfl⟩ | ⟨y, b2, b3, b4⟩⟩
  · exact ⟨rfl, fun z => absurd z (by decide)⟩
  · exact absurd b1 a1
  · exact absurd b1 a1
  · exact absurd a1 b1
  · exact ⟨rfl, fun z => absurd z (by decide)⟩
  · rw [a2] at b3; cases b3
  · exact absurd a1 b1
  · rw [a3] at b2; cases b2
  · rw [a3] at b3; cases b3
    rcases a4 with ⟨a5, rfl⟩ | ⟨a5, rfl, rfl⟩ <;> rcases b4 with ⟨b5, rfl⟩ | ⟨b5, rfl, rfl⟩
    · exact ⟨rfl, fun z => absurd z (by decide)⟩
    · exact absurd a5 b5
    · exact absurd b5 a5
    · exact ck_kr rfl
theorem ck_u_route {V : Nat → Nat → Int32} {nr : Nat} (hJ : ck_oJ V) {a0 a1 a2 a3 kC rC kM rM : Int32} (a : ck_Rroute V nr (fun z => ck_rk (ck_pr V a0) z a3 0 4) a0 a1 a2 a3 kC rC) (b : ck_Rroute V nr (fun lim => ck_fd (ck_mo V a0) lim a3 4) a0 a1 a2 a3 kM rM) : kM = kC ∧ (kC = 0 → rC = rM) := by
  have e : (fun lim => ck_fd (ck_mo V a0) lim a3 4) = (fun z => ck_rk (ck_pr V a0) z a3 0 4) := by
    funext z
    rw [ck_rkE (hJ.pr a0) z a3 4 0 (Nat.le_refl _), ck_rk_fd]
  rw [e] at b
  exact ck_u_route1 a b
theorem ck_u_worst {V : Nat → Nat → Int32} {nc : Nat} {kC rC kM rM : Int32} (a : ck_Rworst V nc kC rC) (b : ck_Rworst V nc kM rM) : kM = kC ∧ (kC = 0 → rC = rM) := by
  rcases a with ⟨a1, rfl⟩ | ⟨a1, rfl, rfl⟩ <;> rcases b with ⟨b1, rfl⟩ | ⟨b1, rfl, rfl⟩
  · exact ⟨rfl, fun z => absurd z (by decide)⟩
  · omega
  · omega
  · exact ck_kr rfl
theorem ck_u_nar {V : Nat → Nat → Int32} {nc : Nat} {a0 kC rC kM rM : Int32} (a : ck_Rnar V nc a0 kC rC) (b : ck_Rnar V nc a0 kM rM) : kM = kC ∧ (kC = 0 → rC = rM) := by
  have h5 : ∀ m, m ≤ 5 → 0 < m → 1 ≤ nI m ∧ nI m ≤ 5 := by decide
  rcases a with ⟨a1, rfl⟩ | ⟨q, hq, rfl, a2, rfl, rfl⟩ <;> rcases b with ⟨b1, rfl⟩ | ⟨q2, hq2, e2, b2, rfl, rfl⟩
  · exact ⟨rfl, fun z => absurd z (by decide)⟩
  · exact absurd (by rw [e2]; exact h5 q2 hq2 b2) a1
  · exact absurd (h5 q hq a2) b1
  · have e3 : q = q2 := (nI_eq (by omega) (by omega)).mp e2
    subst e3
    exact ck_kr rfl
theorem ck_s_set {V : Nat → Nat → Int32} {nc nr n : Nat} (hJ : ck_J V nc nr n) {a0 kC rC kM rM : Int32} {VC VM : Nat → Nat → Int32} (a : ck_Rset V a0 kC rC VC) (b : ck_Rset V a0 kM rM VM) : kM = kC ∧ (kC = 0 → rC = rM) ∧ VM = VC ∧ ck_J VC nc nr (n + 1) := by
  rcases a with ⟨a1, rfl, rfl⟩ | ⟨a1, rfl, rfl, rfl⟩ <;> rcases b with ⟨b1, rfl, rfl⟩ | ⟨b1, rfl, rfl, rfl⟩
  · exact ⟨rfl, fun z => absurd z (by decide), rfl, hJ.mono (Nat.le_succ n)⟩
  · exact absurd b1 a1
  · exact absurd a1 b1
  · exact ⟨rfl, fun _ => rfl, rfl, hJ.upI (hJ.1.set13 _) (fun i hi => va_up_ne _ _ (by omega))⟩
theorem ck_s_claim {V : Nat → Nat → Int32} {nc nr n : Nat} (hn : nc ≤ 60) (hJ : ck_J V nc nr n) {a0 a1 kC rC kM rM : Int32} {VC VM : Nat → Nat → Int32} (a : ck_Rclaim V nc a0 a1 kC rC VC) (b : ck_Rclaim V nc a0 a1 kM rM VM) : kM = kC ∧ (kC = 0 → rC = rM) ∧ VM = VC ∧ ck_J VC nc nr (n + 1) := by
  rcases a with ⟨a1, rfl, rfl⟩ | ⟨q, hq, rfl, a2⟩ <;> rcases b with ⟨b1, rfl, rfl⟩ | ⟨q2, hq2, e2, b2⟩
  · exact ⟨rfl, fun z => absurd z (by decide), rfl, hJ.mono (Nat.le_succ n)⟩
  · exact absurd (by rw [e2]; exact ck_ok_nI hq2 (by omega)) a1
  · exact absurd (ck_ok_nI hq (by omega)) b1
  · have e3 : q = q2 := (nI_eq (by omega) (by omega)).mp e2
    subst e3
    rcases a2 with ⟨a3, rfl, rfl⟩ | ⟨a3, rfl, rfl, rfl⟩ <;> rcases b2 with ⟨b3, rfl, rfl⟩ | ⟨b3, rfl, rfl, rfl⟩
    · exact ⟨rfl, fun z => absurd z (by decide), rfl, hJ.mono (Nat.le_succ n)⟩
    · exact absurd b3 a3
    · exact absurd a3 b3
    · exact ⟨rfl, fun _ => rfl, rfl, hJ.upI (hJ.1.claim hq a3) (fun i hi => va_up_ne _ _ (by omega))⟩
theorem ck_s_add {V : Nat → Nat → Int32} {nc nr n : Nat} (hJ : ck_J V nc nr n) {a0 a1 a2 a3 a4 a5 kC rC kM rM : Int32} {VC VM : Nat → Nat → Int32} {nrC nrM : Nat} (a : ck_Radd V nr a0 a1 a2 a3 a4 a5 kC rC VC nrC) (b : ck_Radd V nr a0 a1 a2 a3 a4 a5 kM rM VM nrM) : kM = kC ∧ (kC = 0 → rC = rM) ∧ VM = VC ∧ nrM = nrC ∧ ck_J VC nc nrC (n + 1) := by
  rcases a with ⟨a1, rfl, rfl, rfl⟩ | ⟨a1, a2, rfl, rfl, rfl⟩ | ⟨a1, a2, rfl, rfl, rfl, rfl⟩ <;> rcases b with ⟨b1, rfl, rfl, rfl⟩ | ⟨b1, b2, rfl, rfl, rfl⟩ | ⟨b1, b2, rfl, rfl, rfl, rfl⟩
  · exact ⟨rfl, fun z => absurd z (by decide), rfl, rfl, hJ.mono (Nat.le_succ n)⟩
  · exact absurd b1 a1
  · exact absurd b1 a1
  · exact absurd a1 b1
  · exact ⟨rfl, fun z => absurd z (by decide), rfl, rfl, hJ.mono (Nat.le_succ n)⟩
  · omega
  · exact absurd a1 b1
  · omega
  · refine ⟨rfl, fun _ => rfl, rfl, rfl, hJ.upI (hJ.1.addR a1) (fun i hi => ?_)⟩
    unfold ck_addR
    rw [va_up_ne _ _ (by omega), va_up_ne _ _ (by omega), va_up_ne _ _ (by omega), va_up_ne _ _ (by omega), va_up_ne _ _ (by omega), va_up_ne _ _ (by omega)]
theorem ck_s_book {V : Nat → Nat → Int32} {nc nr n : Nat} (hJ : ck_J V nc nr n) : ck_J (va_up V 5 (ck_bkd V nr nc)) nc nr (n + 1) := hJ.upI hJ.1.book (fun i hi => va_up_ne _ _ (by omega))
theorem ck_s_corr {V : Nat → Nat → Int32} {nc nr n : Nat} (hJ : ck_J V nc nr n) : ck_J (ck_cV V nr nc) nc nr (n + 1) := hJ.upI hJ.1.corr (fun i hi => by unfold ck_cV; rw [va_up_ne _ _ (by omega), va_up_ne _ _ (by omega)])
-- ===== a record =====
theorem ck_i16 {A B : Nat → Nat → Int32} (h : A 0 = B 0 ∧ A 1 = B 1 ∧ A 2 = B 2 ∧ A 3 = B 3 ∧ A 4 = B 4 ∧ A 5 = B 5 ∧ A 6 = B 6 ∧ A 7 = B 7 ∧ A 8 = B 8 ∧ A 9 = B 9 ∧ A 10 = B 10 ∧ A 11 = B 11 ∧ A 12 = B 12 ∧ A 13 = B 13 ∧ A 14 = B 14 ∧ A 15 = B 15) : ∀ i, i < 16 → A i = B i := fun i hi => by
  obtain ⟨h0, h1, h2, h3, h4, h5, h6, h7, h8, h9, h10, h11, h12, h13, h14, h15⟩ := h
  have c : i = 0 ∨ i = 1 ∨ i = 2 ∨ i = 3 ∨ i = 4 ∨ i = 5 ∨ i = 6 ∨ i = 7 ∨ i = 8 ∨ i = 9 ∨ i = 10 ∨ i = 11 ∨ i = 12 ∨ i = 13 ∨ i = 14 ∨ i = 15 := by omega
  rcases c with rfl | rfl | rfl | rfl | rfl | rfl | rfl | rfl | rfl | rfl | rfl | rfl | rfl | rfl | rfl | rfl <;> assumption
theorem ck_i31 {A B : Nat → Nat → Int32} (h : A 20 = B 20 ∧ A 21 = B 21 ∧ A 22 = B 22 ∧ A 23 = B 23 ∧ A 24 = B 24 ∧ A 25 = B 25 ∧ A 26 = B 26 ∧ A 27 = B 27 ∧ A 28 = B 28 ∧ A 29 = B 29 ∧ A 30 = B 30) : ∀ i, 20 ≤ i → i < 31 → A i = B i := fun i h1 h2 => by
  obtain ⟨h20, h21, h22, h23, h24, h25, h26, h27, h28, h29, h30⟩ := h
  have c : i = 20 ∨ i = 21 ∨ i = 22 ∨ i = 23 ∨ i = 24 ∨ i = 25 ∨ i = 26 ∨ i = 27 ∨ i = 28 ∨ i = 29 ∨ i = 30 := by omega
  rcases c with rfl | rfl | rfl | rfl | rfl | rfl | rfl | rfl | rfl | rfl | rfl <;> assumption
theorem ck_sJ_rec {V V1 : Nat → Nat → Int32} {n q s : Nat} (h : ck_sJ V n) (hn : n < 100000) (hq : q < 3) (hs : s < 10000) (e14 : V1 14 = upd (V 14) q (V 14 q + 1)) (e16 : V1 16 = upd (V 16) q (ck_min (V 16 q) (nI s))) (e17 : V1 17 = upd (V 17) q (ck_max (V 17 q) (nI s))) (e18 : V1 18 = upd (V 18) q (ck_mlo (V 14 q) (V 18 q) (nI s))) (e19 : V1 19 = upd (V 19) q (ck_mhi (V 14 q) (V 19 q) (nI s))) : ck_sJ V1 (n + 1) := fun p hp => by
  rw [e14, e16, e17, e18, e19]
  by_cases c : p = q
  · subst c
    rw [pk_us, pk_us, pk_us, pk_us, pk_us]
    obtain ⟨⟨c, h1, h2⟩, h3⟩ := h p hp
    refine ⟨⟨c + 1, by omega, by rw [h2, nI_1]⟩, Or.inr ⟨?_, ?_, ?_⟩⟩
    · rw [h2, nI_1]; exact nI_ne0 (by omega) (by omega)
    · unfold ck_min ck_mlo
      rcases h3 with ⟨a1, a2, a3⟩ | ⟨a1, a2, a3⟩
      · rw [if_pos (Or.inl a1), a2]
        by_cases d : s < 9999
        · rw [if_pos (show nI s < (9999 : Int32) from nI_lt d (by decide))]
        · have : s = 9999 := by omega
          subst this; decide
      · rw [a2]
        by_cases d : nI s < V 18 p
        · rw [if_pos d, if_pos (Or.inr d)]
        · rw [if_neg d, if_neg (fun z => z.elim a1 d)]
    · unfold ck_max ck_mhi
      rcases h3 with ⟨a1, a2, a3⟩ | ⟨a1, a2, a3⟩
      · rw [if_pos (Or.inl a1), a3]
        by_cases d : 0 < s
        · rw [if_pos (show (0 : Int32) < nI s from nI_lt d (by omega))]
        · have : s = 0 := by omega
          subst this; decide
      · rw [a3]
        by_cases d : V 19 p < nI s
        · rw [if_pos d, if_pos (Or.inr d)]
        · rw [if_neg d, if_neg (fun z => z.elim a1 d)]
  · rw [pk_un c, pk_un c, pk_un c, pk_un c, pk_un c]
    obtain ⟨⟨c, h1, h2⟩, h3⟩ := h p hp
    exact ⟨⟨c, by omega, h2⟩, h3⟩
theorem ck_recJ {V VC VM W1 : Nat → Nat → Int32} {nc nr nc1 n q s : Nat} (hJ : ck_J V nc nr n) (hn : n < 100000) (hq : q < 3) (hs : s < 10000) (hI : ck_I W1 nc1 nr) (e : ∀ i, i < 16 → VM i = if i = 14 then upd (V 14) q (V 14 q + 1) else W1 i) (eo : ∀ i, 20 ≤ i → i < 31 → ck_mg VC VM i = V i) (e16 : VC 16 = upd (V 16) q (ck_min (V 16 q) (nI s))) (e17 : VC 17 = upd (V 17) q (ck_max (V 17 q) (nI s))) (e18 : VM 18 = upd (V 18) q (ck_mlo (V 14 q) (V 18 q) (nI s))) (e19 : VM 19 = upd (V 19) q (ck_mhi (V 14 q) (V 19 q) (nI s))) : ck_J (ck_mg VC VM) nc1 nr (n + 1) :=
  ⟨hI.ext (fun i hi => by rw [ck_mg_M i (by omega), e i (by omega), if_neg (by omega)]), hJ.2.1.ext eo,
    ck_sJ_rec hJ.2.2 hn hq hs ((ck_mg_M 14 (by decide)).trans (by rw [e 14 (by decide), if_pos rfl])) e16 e17 e18 e19⟩
set_option maxHeartbeats 4000000 in
theorem ck_s_rec {V : Nat → Nat → Int32} {L : Nat → Nat → Int64} {nc nr n : Nat} (h60 : nc ≤ 60) (hn : n < 100000) (hJ : ck_J V nc nr n) {a0 a1 a2 a3 a4 kC rC kM rM : Int32} {VC VM : Nat → Nat → Int32} {LC LM : Nat → Nat → Int64} {ncC ncM : Nat} (a : ck_RrecC V L nc a0 a1 a2 a3 a4 kC rC VC LC ncC) (b : ck_Rrec V L nc a0 a1 a2 a3 a4 kM rM VM LM ncM) : ck_syn n kC rC VC LC ncC nr kM rM VM LM ncM nr := by
  have hok : ∀ x : Int32, (0 ≤ x ∧ x ≤ 2) ↔ ck_ok x 3 := fun x => ck_ok_le (x := x) (n := 2) (by decide)
  rcases a with ⟨a5, rfl, rfl, rfl, rfl⟩ | ⟨a5, q, hq, rfl, s, hs, rfl, a6⟩ <;> rcases b with ⟨b5, rfl, rfl, rfl, rfl⟩ | ⟨b5, q2, s2, hq2, hs2, e2, e3, b6⟩
  · exact ⟨rfl, fun z => absurd z (by decide), rfl, rfl, rfl, fun _ _ => rfl, by rw [ck_mg_same]; exact hJ.mono (Nat.le_succ n)⟩
  · exact absurd ⟨(hok _).mp b5.1, b5.2⟩ a5
  · exact absurd ⟨(hok _).mpr (ck_ok_nI hq (by decide)), a5⟩ b5
  · have e4 : q = q2 := (nI_eq (by omega) (by omega)).mp e2
    subst e4
    have e5 : s = s2 := (nI_eq (by omega) (by omega)).mp e3
    subst e5
    have r2 : ck_rg 1000 a2 99999999 := ck_rgI a5.2.1 (by decide) (by decide)
    have r3 : ck_rg 0 a3 999999 := ck_rgI a5.2.2.1 (by decide) (by decide)
    have r4 : ck_rg 0 a4 10000 := ck_rgI a5.2.2.2 (by decide) (by decide)
    rcases a6 with ⟨a7, rfl, rfl, rfl, rfl, rfl⟩ | ⟨a7, j, hj, ej, rfl, rfl, rfl, rfl, rfl⟩ | ⟨a7, ej, hlt, rfl, rfl, rfl, rfl, rfl⟩ | ⟨a7, ej, h6, rfl, rfl, rfl, rfl⟩
    · rcases b6 with ⟨b7, rfl, rfl, rfl, rfl, rfl⟩ | ⟨b7, -⟩
      · refine ⟨rfl, fun _ => rfl, rfl, rfl, rfl, fun _ _ => rfl, ?_⟩
        rw [ck_mg_same]
        exact ⟨hJ.1.ext (fun i hi => va_up_ne _ _ (by omega)), hJ.2.1.ext (fun i h1 h2 => va_up_ne _ _ (by omega)), hJ.2.2.ext (Nat.le_succ n) rfl rfl rfl rfl rfl⟩
      · exact absurd b7 a7
    · rcases b6 with ⟨b7, -⟩ | ⟨b7, j2, ej2, b8⟩
      · exact absurd b7 a7
      · have e6 : j = j2 := ej.symm.trans ej2
        subst e6
        rcases b8 with ⟨c1, -⟩ | ⟨-, c1, -⟩ | ⟨-, rfl, rfl, rfl, rfl, rfl⟩
        · omega
        · omega
        · refine ⟨rfl, fun _ => rfl, rfl, rfl, rfl, ck_i16 ⟨rfl, rfl, rfl, rfl, rfl, rfl, rfl, rfl, rfl, rfl, rfl, rfl, rfl, rfl, rfl, rfl⟩, ?_⟩
          exact ck_recJ hJ hn hq hs (hJ.1.leg hj hq r4) (ck_i16 (B := fun i => if i = 14 then upd (V 14) q (V 14 q + 1) else ck_leg3 V j q a4 i) ⟨rfl, rfl, rfl, rfl, rfl, rfl, rfl, rfl, rfl, rfl, rfl, rfl, rfl, rfl, rfl, rfl⟩) (ck_i31 ⟨rfl, rfl, rfl, rfl, rfl, rfl, rfl, rfl, rfl, rfl, rfl⟩) rfl rfl rfl rfl
    · rcases b6 with ⟨b7, -⟩ | ⟨b7, j2, ej2, b8⟩
      · exact absurd b7 a7
      · have e6 : nc = j2 := ej.symm.trans ej2
        subst e6
        rcases b8 with ⟨c1, -⟩ | ⟨-, -, rfl, rfl, rfl, rfl, rfl⟩ | ⟨c1, -⟩
        · omega
        · refine ⟨rfl, fun _ => rfl, rfl, rfl, rfl, ck_i16 ⟨rfl, rfl, rfl, rfl, rfl, rfl, rfl, rfl, rfl, rfl, rfl, rfl, rfl, rfl, rfl, rfl⟩, ?_⟩
          exact ck_recJ hJ hn hq hs (hJ.1.new hlt hq r2 r3 r4) (ck_i16 (B := fun i => if i = 14 then upd (V 14) q (V 14 q + 1) else ck_leg3 (ck_new3 V nc a2 a3 a4) nc q a4 i) ⟨rfl, rfl, rfl, rfl, rfl, rfl, rfl, rfl, rfl, rfl, rfl, rfl, rfl, rfl, rfl, rfl⟩) (ck_i31 ⟨rfl, rfl, rfl, rfl, rfl, rfl, rfl, rfl, rfl, rfl, rfl⟩) rfl rfl rfl rfl
        · omega
    · rcases b6 with ⟨b7, -⟩ | ⟨b7, j2, ej2, b8⟩
      · exact absurd b7 a7
      · have e6 := ej.symm.trans ej2
        subst e6
        rcases b8 with ⟨c1, rfl, rfl, rfl, rfl⟩ | ⟨c1, -⟩ | ⟨c1, -⟩
        · exact ⟨rfl, fun z => absurd z (by decide), rfl, rfl, rfl, fun _ _ => rfl, by rw [ck_mg_same]; exact hJ.mono (Nat.le_succ n)⟩
        · omega
        · omega
