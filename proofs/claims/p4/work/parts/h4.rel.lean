/-! the class's World against a row of whole numbers -/
def sp_sm (f : Nat → Int) : Nat → Int
  | 0 => 0
  | n + 1 => sp_sm f n + f n
theorem sm_cg {f g : Nat → Int} : ∀ n, (∀ i, i < n → g i = f i) → sp_sm g n = sp_sm f n
  | 0, _ => rfl
  | n + 1, h => by
    show sp_sm g n + g n = sp_sm f n + f n
    rw [sm_cg n (fun i hi => h i (by omega)), h n (by omega)]
theorem sm_u {f g : Nat → Int} {q : Nat} : ∀ n, q < n → (∀ i, i < n → ¬ i = q → g i = f i) → sp_sm g n = sp_sm f n + (g q - f q)
  | 0, h, _ => absurd h (by omega)
  | n + 1, h, hg => by
    show sp_sm g n + g n = sp_sm f n + f n + (g q - f q)
    by_cases e : q = n
    · subst e
      rw [sm_cg q (fun i hi => hg i (by omega) (by omega))]
      omega
    · rw [sm_u n (by omega) (fun i hi => hg i (by omega)), hg n (by omega) (fun z => e z.symm)]
      omega
theorem sm_0 {f : Nat → Int} : ∀ n, (∀ i, i < n → f i = 0) → sp_sm f n = 0
  | 0, _ => rfl
  | n + 1, h => by
    show sp_sm f n + f n = 0
    rw [sm_0 n (fun i hi => h i (by omega)), h n (by omega)]
    rfl
theorem sm_p {f : Nat → Int} : ∀ n, (∀ i, i < n → 0 ≤ f i ∧ f i ≤ 1) → 0 ≤ sp_sm f n ∧ sp_sm f n ≤ n ∧ ∀ i, i < n → f i ≤ sp_sm f n
  | 0, _ => ⟨Int.le_refl 0, Int.le_refl 0, fun i hi => absurd hi (by omega)⟩
  | n + 1, h => by
    have a := sm_p n (fun i hi => h i (by omega))
    have b := h n (by omega)
    show 0 ≤ sp_sm f n + f n ∧ sp_sm f n + f n ≤ ((n + 1 : Nat) : Int) ∧ ∀ i, i < n + 1 → f i ≤ sp_sm f n + f n
    refine ⟨by omega, by omega, fun i hi => ?_⟩
    by_cases e : i = n
    · subst e; omega
    · have := a.2.2 i (by omega); omega
/-- a request's share in its driver's numbers; its deadline -/
def sp_fq (s : sp_R) (d : Int) (q : Nat) : Int := if sp_o s q 0 = d ∧ sp_o s q 6 = 0 then 1 else 0
def sp_fc (s : sp_R) (d : Int) (q : Nat) : Int := if sp_o s q 0 = d ∧ sp_o s q 6 = 2 then 1 else 0
def sp_ft (s : sp_R) (d : Int) (q : Nat) : Int := if sp_o s q 0 = d ∧ sp_o s q 6 = 2 then sp_o s q 13 - sp_o s q 5 else 0
def sp_dn (s : sp_R) (q : Int) : Int := if sp_o s q 4 = 0 then 2147483647 else sp_o s q 5 + sp_o s q 4
/-- the World's own numbers -/
def zN (u : Nat) (G : tx_G) (F : m_M) (s : sp_R) : Prop := F u 1 = s 0 ∧ F u 2 = s 1 ∧ F u 3 = G.1 2
/-- the drivers' numbers -/
def zA (b : Nat) (F : m_M) (s : sp_R) : Prop := ∀ d : Nat, d < 4 → F (b + 8 + 4 * d) 0 = (d : Int) ∧ F (b + 8 + 4 * d) 1 = s (12 + (d : Int)).toNat ∧ (s (12 + (d : Int)).toNat = 1 → F (b + 8 + 4 * d) 2 = s (16 + (d : Int)).toNat) ∧ F (b + 8 + 4 * d) 3 = s (24 + (d : Int)).toNat ∧ F (b + 8 + 4 * d) 4 = s (20 + (d : Int)).toNat ∧ F (b + 8 + 4 * d) 8 = s (44 + (d : Int)).toNat ∧ F (b + 8 + 4 * d) 9 = s (32 + (d : Int)).toNat ∧ F (b + 8 + 4 * d) 10 = s (28 + (d : Int)).toNat ∧ F (b + 8 + 4 * d) 13 = s (40 + (d : Int)).toNat
/-- the drivers' cells, snapshots -/
def zC (b : Nat) (F : m_M) (s : sp_R) : Prop := ∀ d : Nat, d < 4 → (∀ j : Nat, j < 8 → F (b + 9 + 4 * d) j = s (48 + 8 * (d : Int) + j).toNat) ∧ (∀ j : Nat, j < 4 → F (b + 9 + 4 * d) (8 + j) = s (80 + 4 * (d : Int) + j).toNat) ∧ ∀ j : Nat, j < 4 → F (b + 10 + 4 * d) j = s (96 + 4 * (d : Int) + j).toNat
/-- the logs -/
def zL (b : Nat) (F : m_M) (s : sp_R) : Prop := ∀ d k : Nat, d < 4 → (k : Int) < s (44 + (d : Int)).toNat → F (b + 11 + 4 * d) k = s (112 + 20 * (d : Int) + k).toNat
/-- what a driver keeps of its requests -/
def zS1 (b : Nat) (F : m_M) (s : sp_R) (d : Nat) : Prop := F (b + 8 + 4 * d) 11 = sp_sm (sp_fq s d) (s 1).toNat ∧ F (b + 8 + 4 * d) 14 = sp_sm (sp_fc s d) (s 1).toNat ∧ F (b + 8 + 4 * d) 15 = sp_sm (sp_ft s d) (s 1).toNat ∧ (-2147483648 ≤ F (b + 8 + 4 * d) 12 ∧ F (b + 8 + 4 * d) 12 ≤ 2147483647) ∧ ∀ q : Nat, (q : Int) < s 1 → sp_o s q 0 = d → sp_o s q 6 = 0 → F (b + 8 + 4 * d) 12 ≤ sp_dn s q
def zS (b : Nat) (F : m_M) (s : sp_R) : Prop := ∀ d : Nat, d < 4 → zS1 b F s d
/-- the requests -/
def zQ1 (b : Nat) (F : m_M) (s : sp_R) (q : Nat) : Prop := F (b + 24 + q) 1 = sp_o s q 0 ∧ F (b + 24 + q) 2 = sp_o s q 1 ∧ F (b + 24 + q) 3 = sp_o s q 2 ∧ F (b + 24 + q) 4 = sp_o s q 3 ∧ F (b + 24 + q) 5 = sp_o s q 4 ∧ F (b + 24 + q) 6 = sp_o s q 5 ∧ F (b + 24 + q) 7 = sp_o s q 6 ∧ F (b + 24 + q) 8 = sp_o s q 7 ∧ F (b + 24 + q) 9 = sp_o s q 8 ∧ F (b + 24 + q) 10 = sp_o s q 9 ∧ F (b + 24 + q) 11 = sp_o s q 10 ∧ F (b + 24 + q) 13 = sp_o s q 11 ∧ F (b + 24 + q) 14 = sp_o s q 12 ∧ F (b + 24 + q) 15 = if sp_o s q 6 < 2 then -1 else sp_o s q 13
def zQ (b : Nat) (F : m_M) (s : sp_R) : Prop := ∀ q : Nat, (q : Int) < s 1 → zQ1 b F s q
/-- what is left of the requests in flight; of x nothing -/
def zM1 (b : Nat) (x : Int) (F : m_M) (s : sp_R) (q : Nat) : Prop := F (b + 24 + q) 12 = if ¬ (q : Int) = x ∧ sp_o s q 6 = 1 ∧ s (12 + sp_o s q 0).toNat = 0 then s (36 + sp_o s q 0).toNat else 0
def zM (b : Nat) (x : Int) (F : m_M) (s : sp_R) : Prop := ∀ q : Nat, (q : Int) < s 1 → zM1 b x F s q
/-- the journal -/
def zJ (b : Nat) (F : m_M) (s : sp_R) : Prop := (0 ≤ F (b + 2) 5 ∧ F (b + 2) 5 < 200) ∧ F (b + 2) 6 = s 2 ∧ (∀ e : Nat, e < 9 → F (b + 7) e = s (3 + (e : Int)).toNat) ∧ ∀ i : Nat, (i : Int) < s 2 → F (b + 3) ((F (b + 2) 5 + i) % 200).toNat = s (1592 + 4 * (i : Int)).toNat ∧ F (b + 4) ((F (b + 2) 5 + i) % 200).toNat = s (1592 + 4 * (i : Int) + 1).toNat ∧ F (b + 5) ((F (b + 2) 5 + i) % 200).toNat = s (1592 + 4 * (i : Int) + 2).toNat ∧ F (b + 6) ((F (b + 2) 5 + i) % 200).toNat = s (1592 + 4 * (i : Int) + 3).toNat
/-- the requests' own numbers -/
def zK (b : Nat) (F : m_M) : Prop := ∀ q : Nat, q < 100 → F (b + 24 + q) 0 = (q : Int)
/-- what a row keeps -/
def zV1 (s : sp_R) (d : Nat) : Prop := (0 ≤ s (12 + (d : Int)).toNat ∧ s (12 + (d : Int)).toNat ≤ 2) ∧ (¬ s (32 + (d : Int)).toNat = -1 → sp_o s (s (32 + (d : Int)).toNat) 0 = d ∧ sp_o s (s (32 + (d : Int)).toNat) 6 = 1) ∧ (¬ s (28 + (d : Int)).toNat = -1 → sp_o s (s (28 + (d : Int)).toNat) 0 = d ∧ sp_o s (s (28 + (d : Int)).toNat) 6 = 0)
def zV2 (s : sp_R) (q : Nat) : Prop := (0 ≤ sp_o s q 0 ∧ sp_o s q 0 < 4) ∧ (0 ≤ sp_o s q 6 ∧ sp_o s q 6 ≤ 3) ∧ 0 ≤ sp_o s q 3 ∧ 0 ≤ sp_o s q 4 ∧ 0 ≤ sp_o s q 12 ∧ (sp_o s q 6 = 1 → s (32 + sp_o s q 0).toNat = (q : Int))
def zV (s : sp_R) : Prop := (∀ d : Nat, d < 4 → zV1 s d) ∧ (∀ q : Nat, (q : Int) < s 1 → zV2 s q) ∧ 0 ≤ s 1 ∧ s 1 ≤ 100
/-- a driver's log names its own requests -/
def zW (s : sp_R) : Prop := ∀ d k : Nat, d < 4 → (k : Int) < s (44 + (d : Int)).toNat → sp_o s (s (112 + 20 * (d : Int) + k).toNat) 0 = (d : Int)
def q_zz (u b : Nat) (G : tx_G) (x : Int) (F : m_M) (s : sp_R) : Prop := zN u G F s ∧ zA b F s ∧ zC b F s ∧ zL b F s ∧ zS b F s ∧ zQ b F s ∧ zM b x F s ∧ zJ b F s ∧ zK b F ∧ zV s ∧ zW s
section ZC
variable {u b : Nat} {G : tx_G} {x : Int} {F F' : m_M} {s s' : sp_R}
theorem zN_cg (hF : ∀ y, y ≤ 3 → F' u y = F u y) (hs : ∀ k, k ≤ 1 → s' k = s k) (z : zN u G F s) : zN u G F' s' := by
  obtain ⟨a1, a2, a3⟩ := z
  exact ⟨(hF 1 (by omega)).trans (a1.trans (hs 0 (by omega)).symm), (hF 2 (by omega)).trans (a2.trans (hs 1 (by omega)).symm), (hF 3 (by omega)).trans a3⟩
theorem zA_cg (hF : ∀ d y : Nat, d < 4 → y ≤ 10 ∨ y = 13 → F' (b + 8 + 4 * d) y = F (b + 8 + 4 * d) y) (hs : ∀ k, 12 ≤ k → k < 48 → ¬ (36 ≤ k ∧ k < 40) → s' k = s k) (z : zA b F s) : zA b F' s' := by
  intro d hd
  obtain ⟨a0, a1, a2, a3, a4, a8, a9, a10, a13⟩ := z d hd
  have e : ∀ j : Int, 12 ≤ j → j ≤ 44 → (j ≤ 32 ∨ 40 ≤ j) → s' (j + d).toNat = s (j + d).toNat := fun j h1 h2 h3 => hs _ (by omega) (by omega) (by omega)
  exact ⟨(hF d 0 hd (by omega)).trans a0, (hF d 1 hd (by omega)).trans (a1.trans (e 12 (by omega) (by omega) (by omega)).symm), fun h => (hF d 2 hd (by omega)).trans ((a2 ((e 12 (by omega) (by omega) (by omega)).symm.trans h)).trans (e 16 (by omega) (by omega) (by omega)).symm), (hF d 3 hd (by omega)).trans (a3.trans (e 24 (by omega) (by omega) (by omega)).symm), (hF d 4 hd (by omega)).trans (a4.trans (e 20 (by omega) (by omega) (by omega)).symm), (hF d 8 hd (by omega)).trans (a8.trans (e 44 (by omega) (by omega) (by omega)).symm), (hF d 9 hd (by omega)).trans (a9.trans (e 32 (by omega) (by omega) (by omega)).symm), (hF d 10 hd (by omega)).trans (a10.trans (e 28 (by omega) (by omega) (by omega)).symm), (hF d 13 hd (by omega)).trans (a13.trans (e 40 (by omega) (by omega) (by omega)).symm)⟩
theorem zC_cg (hF : ∀ d y : Nat, d < 4 → y < 12 → F' (b + 9 + 4 * d) y = F (b + 9 + 4 * d) y ∧ (y < 4 → F' (b + 10 + 4 * d) y = F (b + 10 + 4 * d) y)) (hs : ∀ k, 48 ≤ k → k < 112 → s' k = s k) (z : zC b F s) : zC b F' s' := by
  intro d hd
  obtain ⟨a1, a2, a3⟩ := z d hd
  exact ⟨fun j hj => (hF d j hd (by omega)).1.trans ((a1 j hj).trans (hs _ (by omega) (by omega)).symm), fun j hj => (hF d (8 + j) hd (by omega)).1.trans ((a2 j hj).trans (hs _ (by omega) (by omega)).symm), fun j hj => ((hF d j hd (by omega)).2 hj).trans ((a3 j hj).trans (hs _ (by omega) (by omega)).symm)⟩
theorem zL_cg (hF : ∀ d y : Nat, d < 4 → F' (b + 11 + 4 * d) y = F (b + 11 + 4 * d) y) (hs : ∀ k, 44 ≤ k → k < 48 ∨ (112 ≤ k ∧ k < 192) → s' k = s k) (h20 : ∀ d : Nat, d < 4 → s (44 + (d : Int)).toNat ≤ 20) (z : zL b F s) : zL b F' s' := by
  intro d k hd hk
  rw [hs _ (by omega) (by omega)] at hk
  have := h20 d hd
  exact (hF d k hd).trans ((z d k hd hk).trans (hs _ (by omega) (by omega)).symm)
theorem o_cg {q j : Int} (hs : ∀ k, 192 ≤ k → k < 1592 → s' k = s k) (q0 : 0 ≤ q) (q1 : q < 100) (j0 : 0 ≤ j) (j1 : j ≤ 13) : sp_o s' q j = sp_o s q j := hs _ (by omega) (by omega)
theorem fq_cg {d : Int} {q : Nat} (h : ∀ j : Int, 0 ≤ j → j ≤ 13 → sp_o s' q j = sp_o s q j) : sp_fq s' d q = sp_fq s d q ∧ sp_fc s' d q = sp_fc s d q ∧ sp_ft s' d q = sp_ft s d q ∧ sp_dn s' q = sp_dn s q := by
  unfold sp_fq sp_fc sp_ft sp_dn
  rw [h 0 (by omega) (by omega), h 6 (by omega) (by omega), h 13 (by omega) (by omega), h 5 (by omega) (by omega), h 4 (by omega) (by omega)]
  exact ⟨rfl, rfl, rfl, rfl⟩
theorem zS_cg (hF : ∀ d y : Nat, d < 4 → (y = 11 ∨ y = 12 ∨ y = 14 ∨ y = 15) → F' (b + 8 + 4 * d) y = F (b + 8 + 4 * d) y) (hn : s 1 ≤ 100) (h1 : s' 1 = s 1) (hs : ∀ (q : Nat) (j : Int), (q : Int) < s 1 → (j = 0 ∨ j = 4 ∨ j = 5 ∨ j = 6 ∨ j = 13) → sp_o s' q j = sp_o s q j) (z : zS b F s) : zS b F' s' := by
  intro d hd
  obtain ⟨a1, a2, a3, a4, a5⟩ := z d hd
  have e : ∀ q : Nat, (q : Int) < s 1 → sp_fq s' d q = sp_fq s d q ∧ sp_fc s' d q = sp_fc s d q ∧ sp_ft s' d q = sp_ft s d q ∧ sp_dn s' q = sp_dn s q := by
    intro q hq
    have h0 := hs q 0 hq (by omega)
    have h4 := hs q 4 hq (by omega)
    have h5 := hs q 5 hq (by omega)
    have h6 := hs q 6 hq (by omega)
    have h13 := hs q 13 hq (by omega)
    unfold sp_fq sp_fc sp_ft sp_dn
    rw [h0, h6, h13, h5, h4]
    exact ⟨rfl, rfl, rfl, rfl⟩
  refine ⟨?_, ?_, ?_, ?_, fun q hq ho h6 => ?_⟩
  · rw [hF d 11 hd (by omega), a1, h1]; exact (sm_cg _ fun i hi => (e i (by omega)).1).symm
  · rw [hF d 14 hd (by omega), a2, h1]; exact (sm_cg _ fun i hi => (e i (by omega)).2.1).symm
  · rw [hF d 15 hd (by omega), a3, h1]; exact (sm_cg _ fun i hi => (e i (by omega)).2.2.1).symm
  · rw [hF d 12 hd (by omega)]; exact a4
  · rw [h1] at hq
    rw [hF d 12 hd (by omega), (e q hq).2.2.2]
    exact a5 q hq ((hs q 0 hq (by omega)).symm.trans ho) ((hs q 6 hq (by omega)).symm.trans h6)
theorem zQ1_cg {q : Nat} (hF : ∀ y : Nat, (1 ≤ y ∧ y ≤ 11) ∨ (13 ≤ y ∧ y ≤ 15) → F' (b + 24 + q) y = F (b + 24 + q) y) (hs : ∀ j : Int, 0 ≤ j → j ≤ 13 → sp_o s' q j = sp_o s q j) (z : zQ1 b F s q) : zQ1 b F' s' q := by
  obtain ⟨a1, a2, a3, a4, a5, a6, a7, a8, a9, a10, a11, a13, a14, a15⟩ := z
  unfold zQ1
  rw [hs 0 (by omega) (by omega), hs 1 (by omega) (by omega), hs 2 (by omega) (by omega), hs 3 (by omega) (by omega), hs 4 (by omega) (by omega), hs 5 (by omega) (by omega), hs 6 (by omega) (by omega), hs 7 (by omega) (by omega), hs 8 (by omega) (by omega), hs 9 (by omega) (by omega), hs 10 (by omega) (by omega), hs 11 (by omega) (by omega), hs 12 (by omega) (by omega), hs 13 (by omega) (by omega), hF 1 (by omega), hF 2 (by omega), hF 3 (by omega), hF 4 (by omega), hF 5 (by omega), hF 6 (by omega), hF 7 (by omega), hF 8 (by omega), hF 9 (by omega), hF 10 (by omega), hF 11 (by omega), hF 13 (by omega), hF 14 (by omega), hF 15 (by omega)]
  exact ⟨a1, a2, a3, a4, a5, a6, a7, a8, a9, a10, a11, a13, a14, a15⟩
theorem zQ_cg (hF : ∀ q y : Nat, q < 100 → (1 ≤ y ∧ y ≤ 11) ∨ (13 ≤ y ∧ y ≤ 15) → F' (b + 24 + q) y = F (b + 24 + q) y) (hn : s 1 ≤ 100) (h1 : s' 1 = s 1) (hs : ∀ k, 192 ≤ k → k < 1592 → s' k = s k) (z : zQ b F s) : zQ b F' s' := by
  intro q hq
  rw [h1] at hq
  exact zQ1_cg (fun y hy => hF q y (by omega) hy) (fun j j0 j1 => o_cg hs (by omega) (by omega) j0 j1) (z q hq)
theorem zM1_cg {q : Nat} (hd : 0 ≤ sp_o s q 0 ∧ sp_o s q 0 < 4) (hF : F' (b + 24 + q) 12 = F (b + 24 + q) 12) (h0 : sp_o s' q 0 = sp_o s q 0) (h6 : sp_o s' q 6 = sp_o s q 6) (hs : ∀ k, (12 ≤ k ∧ k < 16) ∨ (36 ≤ k ∧ k < 40) → s' k = s k) (z : zM1 b x F s q) : zM1 b x F' s' q := by
  unfold zM1 at z ⊢
  rw [hF, h0, h6, hs (12 + sp_o s q 0).toNat (by omega), hs (36 + sp_o s q 0).toNat (by omega)]
  exact z
theorem zM_cg (hV : zV s) (hF : ∀ q : Nat, q < 100 → F' (b + 24 + q) 12 = F (b + 24 + q) 12) (h1 : s' 1 = s 1) (ho : ∀ (q : Nat) (j : Int), (q : Int) < s 1 → (j = 0 ∨ j = 6) → sp_o s' q j = sp_o s q j) (hs : ∀ k, (12 ≤ k ∧ k < 16) ∨ (36 ≤ k ∧ k < 40) → s' k = s k) (z : zM b x F s) : zM b x F' s' := by
  intro q hq
  rw [h1] at hq
  have := hV.2.2.2
  exact zM1_cg (hV.2.1 q hq).1 (hF q (by omega)) (ho q 0 hq (by omega)) (ho q 6 hq (by omega)) hs (z q hq)
theorem zJ_cg (hF : ∀ x y, b + 2 ≤ x → x ≤ b + 7 → (x = b + 2 → y = 5 ∨ y = 6) → F' x y = F x y) (hs : ∀ k, (2 ≤ k ∧ k ≤ 11) ∨ 1592 ≤ k → s' k = s k) (z : zJ b F s) : zJ b F' s' := by
  obtain ⟨a1, a2, a3, a4⟩ := z
  have e5 := hF (b + 2) 5 (by omega) (by omega) (by omega)
  refine ⟨by rw [e5]; exact a1, by rw [hF (b + 2) 6 (by omega) (by omega) (by omega), hs 2 (by omega)]; exact a2, fun e he => ?_, fun i hi => ?_⟩
  · rw [hF (b + 7) e (by omega) (by omega) (by omega), hs _ (by omega)]; exact a3 e he
  · rw [hs 2 (by omega)] at hi
    rw [e5, hF (b + 3) _ (by omega) (by omega) (by omega), hF (b + 4) _ (by omega) (by omega) (by omega), hF (b + 5) _ (by omega) (by omega) (by omega), hF (b + 6) _ (by omega) (by omega) (by omega), hs _ (by omega), hs _ (by omega), hs _ (by omega), hs _ (by omega)]
    exact a4 i hi
theorem zK_cg (hF : ∀ q : Nat, q < 100 → F' (b + 24 + q) 0 = F (b + 24 + q) 0) (z : zK b F) : zK b F' := fun q hq => (hF q hq).trans (z q hq)
theorem zV_cg (h1 : s' 1 = s 1) (ht : ∀ d : Nat, d < 4 → 0 ≤ s' (12 + (d : Int)).toNat ∧ s' (12 + (d : Int)).toNat ≤ 2) (hs : ∀ k, 28 ≤ k → k < 36 → s' k = s k) (ho : ∀ q : Int, 0 ≤ q → q < s 1 → ∀ j : Int, (j = 0 ∨ j = 3 ∨ j = 4 ∨ j = 6) → sp_o s' q j = sp_o s q j) (h12 : ∀ q : Nat, (q : Int) < s 1 → 0 ≤ sp_o s' q 12) (hb : ∀ d : Nat, d < 4 → (-1 ≤ s (28 + (d : Int)).toNat ∧ s (28 + (d : Int)).toNat < s 1) ∧ (-1 ≤ s (32 + (d : Int)).toNat ∧ s (32 + (d : Int)).toNat < s 1)) (z : zV s) : zV s' := by
  obtain ⟨z1, z2, z3, z4⟩ := z
  refine ⟨fun d hd => ?_, fun q hq => ?_, by rw [h1]; exact z3, by rw [h1]; exact z4⟩
  · obtain ⟨a1, a2, a3⟩ := z1 d hd
    obtain ⟨b1, b2⟩ := hb d hd
    unfold zV1
    rw [hs (28 + (d : Int)).toNat (by omega) (by omega), hs (32 + (d : Int)).toNat (by omega) (by omega)]
    refine ⟨ht d hd, fun h => ?_, fun h => ?_⟩
    · exact ⟨(ho _ (by omega) (by omega) 0 (by omega)).trans (a2 h).1, (ho _ (by omega) (by omega) 6 (by omega)).trans (a2 h).2⟩
    · exact ⟨(ho _ (by omega) (by omega) 0 (by omega)).trans (a3 h).1, (ho _ (by omega) (by omega) 6 (by omega)).trans (a3 h).2⟩
  · rw [h1] at hq
    obtain ⟨b1, b2, b3, b4, b5, b6⟩ := z2 q hq
    have e0 : sp_o s' q 0 = sp_o s q 0 := ho q (by omega) hq 0 (by omega)
    have e3 : sp_o s' q 3 = sp_o s q 3 := ho q (by omega) hq 3 (by omega)
    have e4 : sp_o s' q 4 = sp_o s q 4 := ho q (by omega) hq 4 (by omega)
    have e6 : sp_o s' q 6 = sp_o s q 6 := ho q (by omega) hq 6 (by omega)
    unfold zV2
    rw [e0, e3, e4, e6, hs (32 + sp_o s q 0).toNat (by omega) (by omega)]
    exact ⟨b1, b2, b3, b4, h12 q hq, b6⟩
theorem zW_cg {D : Nat} (hI : sp_I G D s) (hs : ∀ k, (44 ≤ k ∧ k < 48) ∨ (112 ≤ k ∧ k < 192) → s' k = s k) (ho : ∀ q : Int, 0 ≤ q → q < s 1 → sp_o s' q 0 = sp_o s q 0) (z : zW s) : zW s' := by
  intro d k hd hk
  rw [hs (44 + (d : Int)).toNat (by omega)] at hk
  have hl := I_l (dr := (d : Int)) (k := (k : Int)) hI (by omega) (by omega) (by omega) hk
  have hd2 := I_d (dr := (d : Int)) hI (by omega) (by omega)
  have hn := I_n hI
  rw [hs (112 + 20 * (d : Int) + k).toNat (by omega), ho _ hl.1 hl.2]
  exact z d k hd hk
end ZC
