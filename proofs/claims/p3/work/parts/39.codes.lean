/-! CODES: what each does to the height of the stack -/
def c_ok (c h : Int) : Prop := 0 ≤ c ∧ c ≤ 200000 ∧ (c = 23 → 1 ≤ h) ∧ (20 ≤ c ∧ c ≤ 28 ∧ ¬ c = 23 → 2 ≤ h) ∧ ((40 ≤ c ∧ c ≤ 47) ∨ (50 ≤ c ∧ c ≤ 53) → 1 ≤ h)
def c_st (c h : Int) : Int := if c = 23 then h else if 20 ≤ c ∧ c ≤ 28 then h - 1 else if (40 ≤ c ∧ c ≤ 47) ∨ (50 ≤ c ∧ c ≤ 53) then h - 1 else h + 1
/-- n codes from place f on go through from height h to height g -/
def c_go (F : m_M) (ca f : Nat) : Nat → Int → Int → Prop
  | 0, h, g => g = h
  | n + 1, h, g => ∃ h1, c_go F ca f n h h1 ∧ c_ok (F ca (f + n)) h1 ∧ g = c_st (F ca (f + n)) h1
theorem c_go_fr {F F' : m_M} {ca f : Nat} : ∀ (n : Nat) {h g : Int}, (∀ k, f ≤ k → k < f + n → F' ca k = F ca k) → c_go F ca f n h g → c_go F' ca f n h g
  | 0, h, g, _, hg => hg
  | n + 1, h, g, hk, hg => by
    obtain ⟨h1, g1, g2, g3⟩ := hg
    have e := hk (f + n) (by omega) (by omega)
    exact ⟨h1, c_go_fr n (fun k a b => hk k a (by omega)) g1, by rw [e]; exact g2, by rw [e]; exact g3⟩
theorem c_go_add {F : m_M} {ca f n : Nat} {h h1 c : Int} (hg : c_go F ca f n h h1) (he : F ca (f + n) = c) (hc : c_ok c h1) : c_go F ca f (n + 1) h (c_st c h1) := ⟨h1, hg, by rw [he]; exact hc, by rw [he]⟩
theorem c_st_le (c h : Int) : c_st c h ≤ h + 1 := by
  unfold c_st
  split
  · omega
  · split
    · omega
    · split <;> omega
theorem c_go_le {F : m_M} {ca f : Nat} : ∀ (n : Nat) {h g : Int}, c_go F ca f n h g → g ≤ h + n
  | 0, h, g, hg => by
    have hg : g = h := hg
    omega
  | n + 1, h, g, hg => by
    obtain ⟨h1, g1, -, g3⟩ := hg
    have := c_go_le n g1
    have := c_st_le (F ca (f + n)) h1
    omega
/-- the first codes of those that go through do too -/
theorem c_go_pre {F : m_M} {ca f : Nat} : ∀ (n m : Nat) {h g : Int}, m ≤ n → c_go F ca f n h g → ∃ g1, c_go F ca f m h g1
  | 0, m, h, g, hm, hg => by
    obtain rfl : m = 0 := by omega
    exact ⟨g, hg⟩
  | n + 1, m, h, g, hm, hg => by
    by_cases e : m = n + 1
    · subst e; exact ⟨g, hg⟩
    · obtain ⟨h1, g1, -, -⟩ := hg
      exact c_go_pre n m (by omega) g1
theorem c_go_fun {F : m_M} {ca f : Nat} : ∀ (n : Nat) {h g g' : Int}, c_go F ca f n h g → c_go F ca f n h g' → g = g'
  | 0, h, g, g', a, b => by
    have a : g = h := a
    have b : g' = h := b
    omega
  | n + 1, h, g, g', a, b => by
    obtain ⟨h1, a1, -, a3⟩ := a
    obtain ⟨h2, b1, -, b3⟩ := b
    rw [a3, b3, c_go_fun n a1 b1]
theorem c_st_op {c h : Int} (h1 : 20 ≤ c) (h2 : c ≤ 28) (h3 : ¬ c = 23) : c_st c h = h - 1 := by
  unfold c_st
  rw [if_neg h3, if_pos ⟨h1, h2⟩]
theorem c_st_not {h : Int} : c_st 23 h = h := by
  unfold c_st
  rw [if_pos rfl]
theorem c_st_to {c h : Int} (h1 : (40 ≤ c ∧ c ≤ 47) ∨ (50 ≤ c ∧ c ≤ 53)) : c_st c h = h - 1 := by
  unfold c_st
  rw [if_neg (by omega), if_neg (by omega), if_pos h1]
theorem c_st_in {c h : Int} (h1 : (0 ≤ c ∧ c < 20) ∨ 1000 ≤ c) : c_st c h = h + 1 := by
  unfold c_st
  rw [if_neg (by omega), if_neg (by omega), if_neg (by omega)]
/-! operators that wait -/
def w_ct (lo hi : Int) (F : m_M) (b : Nat) : Nat → Int
  | 0 => 0
  | n + 1 => w_ct lo hi F b n + (if lo ≤ F 152 (b + n) ∧ F 152 (b + n) ≤ hi then 1 else 0)
theorem w_ct_nn {lo hi : Int} {F : m_M} {b : Nat} : ∀ n, 0 ≤ w_ct lo hi F b n
  | 0 => Int.le_refl _
  | n + 1 => by
    have := w_ct_nn (lo := lo) (hi := hi) (F := F) (b := b) n
    show 0 ≤ w_ct lo hi F b n + _
    split <;> omega
theorem w_ct_fr {lo hi : Int} {F F' : m_M} {b : Nat} : ∀ n, (∀ k, b ≤ k → k < b + n → F' 152 k = F 152 k) → w_ct lo hi F' b n = w_ct lo hi F b n
  | 0, _ => rfl
  | n + 1, hk => by
    show w_ct lo hi F' b n + _ = w_ct lo hi F b n + _
    rw [w_ct_fr n (fun k a c => hk k a (by omega)), hk (b + n) (by omega) (by omega)]
theorem w_ct_in {lo hi : Int} {F : m_M} {b n : Nat} (h : lo ≤ F 152 (b + n) ∧ F 152 (b + n) ≤ hi) : w_ct lo hi F b (n + 1) = w_ct lo hi F b n + 1 := by
  show w_ct lo hi F b n + _ = _
  rw [if_pos h]
theorem w_ct_out {lo hi : Int} {F : m_M} {b n : Nat} (h : ¬ (lo ≤ F 152 (b + n) ∧ F 152 (b + n) ≤ hi)) : w_ct lo hi F b (n + 1) = w_ct lo hi F b n := by
  show w_ct lo hi F b n + _ = _
  rw [if_neg h]
  omega
/-! what the reader keeps, in a text (0) and in a query (1) -/
def q_pi0 (F : m_M) : Prop := q_sc F ∧ (F 135 35 = 0 ∧ 0 ≤ F 135 32 ∧ F 135 32 ≤ F 135 33 + F 135 22 ∧ F 135 33 ≤ 6 ∧ 1200 ≤ F 135 31) ∧ ((F 135 26 = 0 → F 135 31 + F 135 32 ≤ 1200 + F 135 22) ∧ F 135 31 + F 135 32 ≤ 1201 + F 135 22) ∧ (1 ≤ F 135 34 ∧ F 135 34 ≤ 4) ∧ ∀ k, k < 900 → 0 ≤ F 152 k ∧ F 152 k ≤ 100
def q_pi1 (F : m_M) : Prop := q_sc F ∧ (F 135 35 = 1 ∧ 0 ≤ F 135 32 ∧ F 135 32 ≤ F 135 33 + F 135 22 ∧ F 135 33 ≤ 6 ∧ 0 ≤ F 135 31) ∧ ((F 135 26 = 0 → F 135 31 + F 135 32 ≤ F 135 22) ∧ F 135 31 + F 135 32 ≤ 1 + F 135 22 ∧ F 135 20 ≤ 200) ∧ (F 135 34 ≤ F 135 34 ∧ F 135 34 ≤ F 135 34) ∧ ∀ k, k < 900 → 0 ≤ F 152 k ∧ F 152 k ≤ 100
/-- what stays: all but the reader's own numbers; the codes and the waiting ones that were there -/
def q_fr (ca : Nat) (F F' : m_M) : Prop := (∀ a k, ¬ (a = 135 ∧ ((21 ≤ k ∧ k ≤ 24) ∨ k = 26 ∨ k = 27 ∨ (31 ≤ k ∧ k ≤ 33))) → ¬ a = ca → ¬ a = 152 → F' a k = F a k) ∧ (∀ k : Nat, (k : Int) < F 135 31 → F' ca k = F ca k) ∧ (∀ k : Nat, (k : Int) < F 135 32 → F' 152 k = F 152 k) ∧ F 135 22 ≤ F' 135 22 ∧ F 135 31 ≤ F' 135 31
theorem q_fr_rf {ca : Nat} {F : m_M} : q_fr ca F F := ⟨fun _ _ _ _ _ => rfl, fun _ _ => rfl, fun _ _ => rfl, Int.le_refl _, Int.le_refl _⟩
theorem q_fr_tr {ca : Nat} {F G K : m_M} (h1 : q_fr ca F G) (h2 : q_fr ca G K) (hw : F 135 32 ≤ G 135 32) : q_fr ca F K := by
  obtain ⟨a1, a2, a3, a4, a5⟩ := h1
  obtain ⟨b1, b2, b3, b4, b5⟩ := h2
  exact ⟨fun a k x y z => (b1 a k x y z).trans (a1 a k x y z), fun k hk => (b2 k (by omega)).trans (a2 k hk), fun k hk => (b3 k (by omega)).trans (a3 k hk), by omega, by omega⟩
/-- the height behind the codes from s on: H0, one more for each operator of a sum that waits from b on, and e -/
def q_h (F : m_M) (s b : Nat) (H0 e : Int) : Prop := (s : Int) ≤ F 135 31 ∧ (b : Int) ≤ F 135 32 ∧ c_go F 144 s (F 135 31 - s).toNat 0 (H0 + w_ct 26 28 F b (F 135 32 - b).toNat + e)
