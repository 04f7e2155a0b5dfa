def FRM (P : Nat → Nat → Bool) (σ σ1 : hs_S) : Prop := ∀ c j, P c j = false → σ1 c j = σ c j
theorem frm_rf {P : Nat → Nat → Bool} {σ : hs_S} : FRM P σ σ := fun _ _ _ => rfl
theorem frm_tr {P : Nat → Nat → Bool} {a b c : hs_S} (h : FRM P a b) (k : FRM P b c) : FRM P a c := fun i j q => (k i j q).trans (h i j q)
theorem frm_mono {P Q : Nat → Nat → Bool} {a b : hs_S} (h : FRM P a b) (hi : ∀ c j, Q c j = false → P c j = false) : FRM Q a b := fun c j q => h c j (hi c j q)
theorem frm_set {P : Nat → Nat → Bool} {σ σ1 : hs_S} {z : Int} (h : FRM P σ σ1) (c j : Nat) (hp : P c j = true) : FRM P σ (hs_ss σ1 c j z) := by
  intro i k q
  by_cases e1 : i = c
  · subst e1
    by_cases e2 : k = j
    · subst e2; rw [hp] at q; cases q
    · rw [hs_ss_j e2]; exact h i k q
  · rw [hs_ss_ne e1]; exact h i k q
theorem frm_one {P : Nat → Nat → Bool} {σ : hs_S} {z : Int} (c j : Nat) (hp : P c j = true) : FRM P σ (hs_ss σ c j z) := frm_set frm_rf c j hp
def bXt : List (Nat → Int × Int) := [(fun j => ([(-2147483648, 2147483647), (-2147483648, 2147483647), (-2147483648, 2147483647), (-2147483648, 2147483647), (-2147483648, 2147483647), (-2147483648, 2147483647), (-2147483648, 2147483647), (-2147483648, 2147483647), (-2147483648, 2147483647), (0, 500), (0, 999)] : List (Int × Int)).getD j (-2147483648, 2147483647)), fun _ => (-128, 127), (fun j => ([(-2147483648, 2147483647), (-2147483648, 2147483647), (0, 999)] : List (Int × Int)).getD j (-2147483648, 2147483647)), (fun j => ([(-2147483648, 2147483647), (-2147483648, 2147483647), (-2147483648, 2147483647), (10, 100), (0, 4), (0, 99), (0, 1)] : List (Int × Int)).getD j (-2147483648, 2147483647)), fun _ => (0, 99), fun _ => (0, 99), fun _ => (0, 99), fun _ => (-2147483648, 2147483647), (fun j => ([(0, 9), (0, 99), (0, 99), (-1, 99), (0, 3), (0, 900), (0, 50), (0, 99), (0, 60)] : List (Int × Int)).getD j (-2147483648, 2147483647)), (fun j => ([(0, 9), (0, 99), (0, 99), (-1, 99), (0, 3), (0, 900), (0, 50), (0, 99), (0, 60)] : List (Int × Int)).getD j (-2147483648, 2147483647)), (fun j => ([(0, 9), (0, 99), (0, 99), (-1, 99), (0, 3), (0, 900), (0, 50), (0, 99), (0, 60)] : List (Int × Int)).getD j (-2147483648, 2147483647)), (fun j => ([(0, 9), (0, 99), (0, 99), (-1, 99), (0, 3), (0, 900), (0, 50), (0, 99), (0, 60)] : List (Int × Int)).getD j (-2147483648, 2147483647)), (fun j => ([(-2147483648, 2147483647), (-2147483648, 2147483647), (0, 100), (0, 99)] : List (Int × Int)).getD j (-2147483648, 2147483647)), fun _ => (-10000, 10000), fun _ => (0, 99), (fun j => ([(-2147483648, 2147483647), (-2147483648, 2147483647), (-2147483648, 2147483647), (-2147483648, 2147483647), (-2147483648, 2147483647), (-2147483648, 2147483647), (-2147483648, 2147483647), (-2147483648, 2147483647), (0, 60), (0, 5), (-2147483648, 2147483647), (0, 500), (-2147483648, 2147483647), (0, 3), (-1, 500)] : List (Int × Int)).getD j (-2147483648, 2147483647)), (fun j => ([(-2147483648, 2147483647), (-2147483648, 2147483647), (-2147483648, 2147483647), (0, 501), (0, 500)] : List (Int × Int)).getD j (-2147483648, 2147483647)), fun _ => (-2147483648, 2147483647), fun _ => (0, 500), fun _ => (0, 1000), fun _ => (0, 10), fun _ => (0, 99), fun _ => (0, 7), fun _ => (0, 60), fun _ => (-1, 7), fun _ => (-999, 999), fun _ => (0, 59), (fun j => ([(-2147483648, 2147483647), (-2147483648, 2147483647), (-2147483648, 2147483647), (-2147483648, 2147483647), (-500000, 100000), (0, 5000), (0, 5000)] : List (Int × Int)).getD j (-2147483648, 2147483647)), fun _ => (0, 99), (fun j => ([(-2147483648, 2147483647), (-2147483648, 2147483647), (-2147483648, 2147483647), (-2147483648, 2147483647), (0, 100), (0, 3)] : List (Int × Int)).getD j (-2147483648, 2147483647)), fun _ => (0, 1), fun _ => (-10, 99), (fun j => ([(-2147483648, 2147483647), (-2147483648, 2147483647), (-2147483648, 2147483647), (-2147483648, 2147483647), (-2147483648, 2147483647), (-2147483648, 2147483647), (0, 100000000), (-2147483648, 2147483647), (0, 100000000), (-9223372036854775808, 9223372036854775807), (-9223372036854775808, 9223372036854775807), (-2147483648, 2147483647), (-9223372036854775808, 9223372036854775807)] : List (Int × Int)).getD j (-2147483648, 2147483647)), (fun j => ([(-2147483648, 2147483647), (-2147483648, 2147483647), (-2147483648, 2147483647), (10, 100), (0, 4), (0, 99), (0, 1)] : List (Int × Int)).getD j (-2147483648, 2147483647)), fun _ => (0, 99), fun _ => (0, 99), fun _ => (0, 99), fun _ => (-2147483648, 2147483647), fun _ => (-10, 99), fun _ => (-10, 99), fun _ => (-10, 99), fun _ => (-10, 99), fun _ => (0, 100), fun _ => (0, 100), (fun j => ([(-2147483648, 2147483647), (-2147483648, 2147483647), (-2147483648, 2147483647), (0, 512)] : List (Int × Int)).getD j (-2147483648, 2147483647)), fun _ => (0, 3), fun _ => (0, 999), fun _ => (0, 99), (fun j => ([(-2147483648, 2147483647), (-2147483648, 2147483647), (-2147483648, 2147483647), (-2147483648, 2147483647), (-2147483648, 2147483647), (-2147483648, 2147483647), (-2147483648, 2147483647), (-2147483648, 2147483647), (0, 80)] : List (Int × Int)).getD j (-2147483648, 2147483647)), fun _ => (-1, 5), fun _ => (-1, 3), fun _ => (-1, 99), fun _ => (0, 999), fun _ => (0, 1), fun _ => (-2147483648, 2147483647)]
def bX (c j : Nat) : Int × Int := (bXt.getD c (fun _ => (-2147483648, 2147483647))) j
def IBX (σ : hs_S) : Prop := ∀ c j, (bX c j).1 ≤ σ c j ∧ σ c j ≤ (bX c j).2
def KX (σ0 σ : hs_S) : Prop := σ 0 9 = σ0 0 9 ∧ σ 0 10 = σ0 0 10 ∧ σ 3 3 = σ0 3 3 ∧ σ 3 4 = σ0 3 4 ∧ σ 48 8 = σ0 48 8
def okX (c j : Nat) : Bool := !((c == 0 && j == 9) || (c == 0 && j == 10) || (c == 3 && j == 3) || (c == 3 && j == 4) || (c == 48 && j == 8) || c == 4 || c == 5 || c == 34 || c == 35 || c == 49 || c == 51)
def LT0 (σ : hs_S) : Prop := ∀ w : Nat, w < 4 → (0 ≤ σ 5 w ∧ σ 5 w ≤ σ 4 w) ∧ (0 ≤ σ 35 w ∧ σ 35 w ≤ σ 34 w)
def SK (σ : hs_S) : Prop := ∀ k : Nat, σ 49 k = -1 → 0 ≤ σ 51 k ∧ σ 51 k ≤ 79
def LT (σ : hs_S) : Prop := LT0 σ ∧ SK σ
def GX (σ0 σ : hs_S) : Prop := IBX σ ∧ KX σ0 σ ∧ LT σ
theorem kx_rf {σ : hs_S} : KX σ σ := ⟨rfl, rfl, rfl, rfl, rfl⟩
theorem kx_tr {a b c : hs_S} (h : KX a b) (k : KX b c) : KX a c := by
  unfold KX at *
  omega
theorem ibx_set {σ : hs_S} {z : Int} (h : IBX σ) (c j : Nat) (lo hi : Int) (hb : bX c j = (lo, hi)) (hz : lo ≤ z ∧ z ≤ hi) : IBX (hs_ss σ c j z) := by
  intro c2 j2
  by_cases e1 : c2 = c
  · subst e1
    by_cases e2 : j2 = j
    · subst e2
      rw [hs_ss_at, hb]; exact hz
    · rw [hs_ss_j e2]; exact h c2 j2
  · rw [hs_ss_ne e1]; exact h c2 j2
theorem hs_ne_x {σ : hs_S} {z : Int} {c j c2 j2 : Nat} (ho : okX c j = true) (h2 : okX c2 j2 = false) : hs_ss σ c j z c2 j2 = σ c2 j2 := by
  by_cases e1 : c2 = c
  · subst e1
    by_cases e2 : j2 = j
    · subst e2; rw [ho] at h2; cases h2
    · exact hs_ss_j e2
  · rw [hs_ss_ne e1]
theorem kx_set {σ0 σ : hs_S} {z : Int} (h : KX σ0 σ) (c j : Nat) (ho : okX c j = true) : KX σ0 (hs_ss σ c j z) := by
  unfold KX at *
  refine ⟨?_, ?_, ?_, ?_, ?_⟩
  · rw [hs_ne_x ho rfl]; omega
  · rw [hs_ne_x ho rfl]; omega
  · rw [hs_ne_x ho rfl]; omega
  · rw [hs_ne_x ho rfl]; omega
  · rw [hs_ne_x ho rfl]; omega
def bYt : List (Nat → Int × Int) := [(fun j => ([(-2147483648, 2147483647), (0, 500), (0, 2), (10, 100), (0, 99), (0, 2), (0, 4), (-2147483648, 2147483647), (-2147483648, 2147483647), (-2147483648, 2147483647), (-2147483648, 2147483647), (-2147483648, 2147483647), (-2147483648, 2147483647), (-2147483648, 2147483647), (-2147483648, 2147483647), (-2147483648, 2147483647), (-2147483648, 2147483647), (0, 999), (0, 999), (0, 99), (0, 100), (-2147483648, 2147483647), (-2147483648, 2147483647), (0, 1), (-2147483648, 2147483647), (0, 3), (-1, 500), (0, 500), (0, 500), (0, 5), (-1, 10000), (0, 500), (0, 60), (-2147483648, 2147483647), (-2147483648, 2147483647), (-2147483648, 2147483647), (-2147483648, 2147483647), (-2147483648, 2147483647), (-2147483648, 2147483647), (-2147483648, 2147483647), (-2147483648, 2147483647), (0, 5), (-2147483648, 2147483647), (-1, 7), (-999, 999), (0, 100000), (0, 5000), (0, 5000), (-2147483648, 2147483647), (0, 5), (-2147483648, 2147483647), (-2147483648, 2147483647), (-2147483648, 2147483647), (0, 100), (-2147483648, 2147483647), (-2147483648, 2147483647), (-2147483648, 2147483647), (-2147483648, 2147483647), (-9223372036854775808, 9223372036854775807), (-2147483648, 2147483647), (-2147483648, 2147483647), (0, 80), (-2147483648, 2147483647), (-2147483648, 2147483647), (-2147483648, 2147483647), (-2147483648, 2147483647), (-2147483648, 2147483647), (-2147483648, 2147483647)] : List (Int × Int)).getD j (-2147483648, 2147483647)), fun _ => (0, 255), fun _ => (0, 9), fun _ => (0, 99), fun _ => (-1, 99), fun _ => (0, 3), fun _ => (0, 900), fun _ => (0, 50), fun _ => (0, 99), fun _ => (0, 60), fun _ => (0, 99), fun _ => (0, 100), fun _ => (-10000, 10000), fun _ => (0, 99), (fun j => ([(108, 108), (101, 101), (102, 102), (116, 116), (32, 32), (114, 114), (105, 105), (103, 103), (104, 104), (116, 116), (32, 32), (98, 98), (97, 97), (99, 99), (107, 107), (32, 32), (102, 102), (101, 101), (101, 101), (108, 108), (32, 32), (116, 116), (114, 114), (121, 121), (32, 32), (97, 97), (103, 103), (97, 97), (105, 105), (110, 110), (32, 32), (101, 101), (97, 97), (99, 99), (104, 104), (32, 32)] : List (Int × Int)).getD j (-2147483648, 2147483647)), fun _ => (0, 6), fun _ => (0, 99), fun _ => (-1, 7), fun _ => (-1, 7), fun _ => (-999, 999), fun _ => (-1, 7), fun _ => (-999, 999), fun _ => (0, 60), fun _ => (0, 59), fun _ => (0, 99), fun _ => (0, 59), fun _ => (0, 200), fun _ => (0, 1), fun _ => (0, 1000), fun _ => (0, 100), fun _ => (0, 1000), fun _ => (-2147483648, 2147483647), fun _ => (0, 99), fun _ => (0, 100), fun _ => (0, 1), fun _ => (0, 999), fun _ => (0, 79), fun _ => (0, 3), fun _ => (-1, 99), fun _ => (0, 1)]
def bY (c j : Nat) : Int × Int := (bYt.getD c (fun _ => (-2147483648, 2147483647))) j
def IBY (σ : hs_S) : Prop := ∀ c j, (bY c j).1 ≤ σ c j ∧ σ c j ≤ (bY c j).2
def KY (σ0 σ : hs_S) : Prop := σ 0 1 = σ0 0 1 ∧ σ 0 3 = σ0 0 3 ∧ σ 0 6 = σ0 0 6 ∧ σ 0 61 = σ0 0 61 ∧ σ 0 18 = σ0 0 18
def okY (c j : Nat) : Bool := !((c == 0 && j == 1) || (c == 0 && j == 3) || (c == 0 && j == 6) || (c == 0 && j == 61) || (c == 0 && j == 18))
def GY (σ0 σ : hs_S) : Prop := IBY σ ∧ KY σ0 σ
theorem ky_rf {σ : hs_S} : KY σ σ := ⟨rfl, rfl, rfl, rfl, rfl⟩
theorem ky_tr {a b c : hs_S} (h : KY a b) (k : KY b c) : KY a c := by
  unfold KY at *
  omega
theorem iby_set {σ : hs_S} {z : Int} (h : IBY σ) (c j : Nat) (lo hi : Int) (hb : bY c j = (lo, hi)) (hz : lo ≤ z ∧ z ≤ hi) : IBY (hs_ss σ c j z) := by
  intro c2 j2
  by_cases e1 : c2 = c
  · subst e1
    by_cases e2 : j2 = j
    · subst e2
      rw [hs_ss_at, hb]; exact hz
    · rw [hs_ss_j e2]; exact h c2 j2
  · rw [hs_ss_ne e1]; exact h c2 j2
theorem hs_ne_y {σ : hs_S} {z : Int} {c j c2 j2 : Nat} (ho : okY c j = true) (h2 : okY c2 j2 = false) : hs_ss σ c j z c2 j2 = σ c2 j2 := by
  by_cases e1 : c2 = c
  · subst e1
    by_cases e2 : j2 = j
    · subst e2; rw [ho] at h2; cases h2
    · exact hs_ss_j e2
  · rw [hs_ss_ne e1]
theorem ky_set {σ0 σ : hs_S} {z : Int} (h : KY σ0 σ) (c j : Nat) (ho : okY c j = true) : KY σ0 (hs_ss σ c j z) := by
  unfold KY at *
  refine ⟨?_, ?_, ?_, ?_, ?_⟩
  · rw [hs_ne_y ho rfl]; omega
  · rw [hs_ne_y ho rfl]; omega
  · rw [hs_ne_y ho rfl]; omega
  · rw [hs_ne_y ho rfl]; omega
  · rw [hs_ne_y ho rfl]; omega
theorem lt_set {σ : hs_S} {z : Int} (h : LT σ) (c j : Nat) (ho : okX c j = true) : LT (hs_ss σ c j z) := by
  have e : ∀ d, (d = 4 ∨ d = 5 ∨ d = 34 ∨ d = 35 ∨ d = 49 ∨ d = 51) → hs_ss σ c j z d = σ d := by
    intro d hd
    refine hs_ss_ne (fun q => ?_)
    subst q
    rcases hd with rfl | rfl | rfl | rfl | rfl | rfl <;> simp [okX] at ho
  refine ⟨fun w hw => ?_, fun k hk => ?_⟩
  · rw [e 4 (by omega), e 5 (by omega), e 34 (by omega), e 35 (by omega)]
    exact h.1 w hw
  · rw [e 49 (by omega)] at hk
    rw [e 51 (by omega)]
    exact h.2 k hk
theorem gx_set {σ0 σ : hs_S} {z : Int} (h : GX σ0 σ) (c j : Nat) (ho : okX c j = true) (lo hi : Int) (hb : bX c j = (lo, hi)) (hz : lo ≤ z ∧ z ≤ hi) : GX σ0 (hs_ss σ c j z) := ⟨ibx_set h.1 c j lo hi hb hz, kx_set h.2.1 c j ho, lt_set h.2.2 c j ho⟩
theorem gx_self {σ0 σ : hs_S} (h : GX σ0 σ) : GX σ σ := ⟨h.1, kx_rf, h.2.2⟩
theorem gx_trans {a b c : hs_S} (h : GX a b) (k : GX b c) : GX a c := ⟨k.1, kx_tr h.2.1 k.2.1, k.2.2⟩
theorem gy_set {σ0 σ : hs_S} {z : Int} (h : GY σ0 σ) (c j : Nat) (ho : okY c j = true) (lo hi : Int) (hb : bY c j = (lo, hi)) (hz : lo ≤ z ∧ z ≤ hi) : GY σ0 (hs_ss σ c j z) := ⟨iby_set h.1 c j lo hi hb hz, ky_set h.2 c j ho⟩
theorem gy_self {σ0 σ : hs_S} (h : GY σ0 σ) : GY σ σ := ⟨h.1, ky_rf⟩
theorem gy_trans {a b c : hs_S} (h : GY a b) (k : GY b c) : GY a c := ⟨k.1, ky_tr h.2 k.2⟩
theorem bX_w {w f : Nat} (h : w < 4) : bX (8 + w) f = bX 8 f := by rcases (show w = 0 ∨ w = 1 ∨ w = 2 ∨ w = 3 by omega) with rfl | rfl | rfl | rfl <;> rfl
theorem bX_p {w f : Nat} (h : w < 4) : bX (38 + w) f = bX 38 f := by rcases (show w = 0 ∨ w = 1 ∨ w = 2 ∨ w = 3 by omega) with rfl | rfl | rfl | rfl <;> rfl
theorem bX_t {t f : Nat} (h : hs_T t) : bX t f = bX 3 f := by rcases h with rfl | rfl <;> rfl
theorem bX_t1 {t f : Nat} (h : hs_T t) : bX (t + 1) f = bX 4 f := by rcases h with rfl | rfl <;> rfl
theorem bX_t2 {t f : Nat} (h : hs_T t) : bX (t + 2) f = bX 5 f := by rcases h with rfl | rfl <;> rfl
theorem bX_t3 {t f : Nat} (h : hs_T t) : bX (t + 3) f = bX 6 f := by rcases h with rfl | rfl <;> rfl
theorem gx_w {σ0 σ : hs_S} (h : GX σ0 σ) {w : Nat} (hw : w < 4) (f : Nat) : (bX 8 f).1 ≤ σ (8 + w) f ∧ σ (8 + w) f ≤ (bX 8 f).2 := by have := h.1 (8 + w) f; rwa [bX_w hw] at this
theorem gx_p {σ0 σ : hs_S} (h : GX σ0 σ) {w : Nat} (hw : w < 4) (f : Nat) : (bX 38 f).1 ≤ σ (38 + w) f ∧ σ (38 + w) f ≤ (bX 38 f).2 := by have := h.1 (38 + w) f; rwa [bX_p hw] at this
theorem gx_t {σ0 σ : hs_S} (h : GX σ0 σ) {t : Nat} (ht : hs_T t) (f : Nat) : (bX 3 f).1 ≤ σ t f ∧ σ t f ≤ (bX 3 f).2 := by have := h.1 t f; rwa [bX_t ht] at this
theorem gx_t1 {σ0 σ : hs_S} (h : GX σ0 σ) {t : Nat} (ht : hs_T t) (f : Nat) : (bX 4 f).1 ≤ σ (t + 1) f ∧ σ (t + 1) f ≤ (bX 4 f).2 := by have := h.1 (t + 1) f; rwa [bX_t1 ht] at this
theorem gx_t2 {σ0 σ : hs_S} (h : GX σ0 σ) {t : Nat} (ht : hs_T t) (f : Nat) : (bX 5 f).1 ≤ σ (t + 2) f ∧ σ (t + 2) f ≤ (bX 5 f).2 := by have := h.1 (t + 2) f; rwa [bX_t2 ht] at this
theorem gx_t3 {σ0 σ : hs_S} (h : GX σ0 σ) {t : Nat} (ht : hs_T t) (f : Nat) : (bX 6 f).1 ≤ σ (t + 3) f ∧ σ (t + 3) f ≤ (bX 6 f).2 := by have := h.1 (t + 3) f; rwa [bX_t3 ht] at this
theorem okX_w {w f : Nat} (h : w < 4) : okX (8 + w) f = true := by rcases (show w = 0 ∨ w = 1 ∨ w = 2 ∨ w = 3 by omega) with rfl | rfl | rfl | rfl <;> rfl
theorem okX_p {w f : Nat} (h : w < 4) : okX (38 + w) f = true := by rcases (show w = 0 ∨ w = 1 ∨ w = 2 ∨ w = 3 by omega) with rfl | rfl | rfl | rfl <;> rfl
theorem gx_setw {σ0 σ : hs_S} {z : Int} (h : GX σ0 σ) {w : Nat} (hw : w < 4) (f : Nat) (lo hi : Int) (hb : bX 8 f = (lo, hi)) (hz : lo ≤ z ∧ z ≤ hi) : GX σ0 (hs_ss σ (8 + w) f z) := gx_set h _ _ (okX_w hw) lo hi ((bX_w hw).trans hb) hz
theorem gx_setp {σ0 σ : hs_S} {z : Int} (h : GX σ0 σ) {w : Nat} (hw : w < 4) (f : Nat) (lo hi : Int) (hb : bX 38 f = (lo, hi)) (hz : lo ≤ z ∧ z ≤ hi) : GX σ0 (hs_ss σ (38 + w) f z) := gx_set h _ _ (okX_p hw) lo hi ((bX_p hw).trans hb) hz
theorem gx_sett {σ0 σ : hs_S} {z : Int} (h : GX σ0 σ) {t : Nat} (ht : hs_T t) (f : Nat) (lo hi : Int) (hb : bX 3 f = (lo, hi)) (hz : lo ≤ z ∧ z ≤ hi) (hf : okX 3 f = true) : GX σ0 (hs_ss σ t f z) := gx_set h _ _ (by rcases ht with rfl | rfl <;> first | exact hf | rfl) lo hi ((bX_t ht).trans hb) hz
theorem gx_sett3 {σ0 σ : hs_S} {z : Int} (h : GX σ0 σ) {t : Nat} (ht : hs_T t) (f : Nat) (lo hi : Int) (hb : bX 6 f = (lo, hi)) (hz : lo ≤ z ∧ z ≤ hi) : GX σ0 (hs_ss σ (t + 3) f z) := gx_set h _ _ (by rcases ht with rfl | rfl <;> rfl) lo hi ((bX_t3 ht).trans hb) hz
theorem gx_lag {σ0 σ : hs_S} (h : GX σ0 σ) {t : Nat} (ht : hs_T t) {w : Nat} (hw : w < 4) : 0 ≤ σ (t + 2) w ∧ σ (t + 2) w ≤ σ (t + 1) w := by
  rcases ht with rfl | rfl
  · exact (h.2.2.1 w hw).1
  · exact (h.2.2.1 w hw).2
/-- a lag is set anew -/
theorem gx_setlag {σ0 σ : hs_S} {z : Int} (h : GX σ0 σ) {t : Nat} (ht : hs_T t) {w : Nat} (hw : w < 4) (hz : 0 ≤ z ∧ z ≤ σ (t + 1) w) : GX σ0 (hs_ss σ (t + 2) w z) := by
  have b1 := gx_t1 h ht w
  have b1 : (0 : Int) ≤ σ (t + 1) w ∧ σ (t + 1) w ≤ 99 := b1
  refine ⟨ibx_set h.1 _ _ 0 99 (by rcases ht with rfl | rfl <;> rfl) (by omega), ?_, ?_⟩
  · have hk := h.2.1
    unfold KX at *
    rcases ht with rfl | rfl <;> simpa [hs_ss] using hk
  · refine ⟨?_, fun k hk => ?_⟩
    rotate_left
    · have h51 : hs_ss σ (t + 2) w z 51 = σ 51 := hs_ss_ne (by rcases ht with rfl | rfl <;> decide)
      have h49 : hs_ss σ (t + 2) w z 49 = σ 49 := hs_ss_ne (by rcases ht with rfl | rfl <;> decide)
      rw [h49] at hk
      rw [h51]
      exact h.2.2.2 k hk
    intro v hv
    have h1 := h.2.2.1 v hv
    by_cases e : v = w
    · subst e
      rcases ht with rfl | rfl <;> simp [hs_ss, hs_up] at hz ⊢ <;> omega
    · rcases ht with rfl | rfl <;> simp [hs_ss, hs_up, e] <;> omega
