/-! the law's helpers: a call stands under its handler -/
theorem p_hd_mem {z x : Nat} {r : Nat × Nat} (h : p_hd z x = some r) : (z, x, r) ∈ p_hds := by
  unfold p_hd at h
  cases hf : p_hds.find? (fun q => q.1 == z && q.2.1 == x) with
  | none => rw [hf] at h; cases h
  | some q =>
    rw [hf] at h
    cases h
    have h1 := List.find?_some hf
    obtain ⟨e1, e2⟩ := m_and h1
    have e1 : q.1 = z := by simpa using e1
    have e2 : q.2.1 = x := by simpa using e2
    subst e1 e2
    exact List.mem_of_find?_eq_some hf
theorem cov_279 {L : Nat} {xs : Nat → Int32} : ∀ pc i, (decide (0 ≤ pc) && decide (pc < 9)) = true → m_cov (p_P L xs) p_G p_Y p_B p_HH 279 pc i := by
  intro pc i hc _ x r hr
  obtain ⟨c1, c2⟩ := m_and hc
  have c1 := of_decide_eq_true c1
  have c2 := of_decide_eq_true c2
  have hm := p_hd_mem (show p_hd 279 x = some r from hr)
  have hq := (show ∀ q ∈ p_hds, q.1 = 279 → q = (279, 1, 3, 13) by decide +kernel) _ hm rfl
  have hcv : ∀ a b : Nat, covers (⟨0, 9, a, b⟩ : ExceptionTableEntry) pc = true := fun a b => by simp only [covers, Bool.and_eq_true, decide_eq_true_eq]; exact ⟨c1, c2⟩
  rcases hq with hq
  · cases hq
    exact ⟨by decide, (show 3 < p_nls.getD 279 0 by decide +kernel), [], ⟨0, 9, 12, 13⟩, [], rfl, fun y hy => absurd hy List.not_mem_nil, hcv _ _, by decide, w_474, Or.inl ⟨⟨3, by decide⟩, rfl, by decide +kernel, rfl⟩⟩
theorem cov_280 {L : Nat} {xs : Nat → Int32} : ∀ pc i, (decide (0 ≤ pc) && decide (pc < 9)) = true → m_cov (p_P L xs) p_G p_Y p_B p_HH 280 pc i := by
  intro pc i hc _ x r hr
  obtain ⟨c1, c2⟩ := m_and hc
  have c1 := of_decide_eq_true c1
  have c2 := of_decide_eq_true c2
  have hm := p_hd_mem (show p_hd 280 x = some r from hr)
  have hq := (show ∀ q ∈ p_hds, q.1 = 280 → q = (280, 0, 3, 13) by decide +kernel) _ hm rfl
  have hcv : ∀ a b : Nat, covers (⟨0, 9, a, b⟩ : ExceptionTableEntry) pc = true := fun a b => by simp only [covers, Bool.and_eq_true, decide_eq_true_eq]; exact ⟨c1, c2⟩
  rcases hq with hq
  · cases hq
    exact ⟨by decide, (show 3 < p_nls.getD 280 0 by decide +kernel), [], ⟨0, 9, 12, 18⟩, [], rfl, fun y hy => absurd hy List.not_mem_nil, hcv _ _, by decide, w_938, Or.inl ⟨⟨3, by decide⟩, rfl, by decide +kernel, rfl⟩⟩
theorem cov_281 {L : Nat} {xs : Nat → Int32} : ∀ pc i, (decide (0 ≤ pc) && decide (pc < 9)) = true → m_cov (p_P L xs) p_G p_Y p_B p_HH 281 pc i := by
  intro pc i hc _ x r hr
  obtain ⟨c1, c2⟩ := m_and hc
  have c1 := of_decide_eq_true c1
  have c2 := of_decide_eq_true c2
  have hm := p_hd_mem (show p_hd 281 x = some r from hr)
  have hq := (show ∀ q ∈ p_hds, q.1 = 281 → q = (281, 0, 3, 13) by decide +kernel) _ hm rfl
  have hcv : ∀ a b : Nat, covers (⟨0, 9, a, b⟩ : ExceptionTableEntry) pc = true := fun a b => by simp only [covers, Bool.and_eq_true, decide_eq_true_eq]; exact ⟨c1, c2⟩
  rcases hq with hq
  · cases hq
    exact ⟨by decide, (show 3 < p_nls.getD 281 0 by decide +kernel), [], ⟨0, 9, 12, 18⟩, [], rfl, fun y hy => absurd hy List.not_mem_nil, hcv _ _, by decide, w_938, Or.inl ⟨⟨3, by decide⟩, rfl, by decide +kernel, rfl⟩⟩
theorem cov_282 {L : Nat} {xs : Nat → Int32} : ∀ pc i, (decide (0 ≤ pc) && decide (pc < 16)) = true → m_cov (p_P L xs) p_G p_Y p_B p_HH 282 pc i := by
  intro pc i hc _ x r hr
  obtain ⟨c1, c2⟩ := m_and hc
  have c1 := of_decide_eq_true c1
  have c2 := of_decide_eq_true c2
  have hm := p_hd_mem (show p_hd 282 x = some r from hr)
  have hq := (show ∀ q ∈ p_hds, q.1 = 282 → q = (282, 0, 7, 21) ∨ q = (282, 1, 7, 25) by decide +kernel) _ hm rfl
  have hcv : ∀ a b : Nat, covers (⟨0, 16, a, b⟩ : ExceptionTableEntry) pc = true := fun a b => by simp only [covers, Bool.and_eq_true, decide_eq_true_eq]; exact ⟨c1, c2⟩
  rcases hq with hq | hq
  · cases hq
    exact ⟨by decide, (show 7 < p_nls.getD 282 0 by decide +kernel), [], ⟨0, 16, 19, 18⟩, [⟨0, 16, 23, 13⟩], rfl, fun y hy => absurd hy List.not_mem_nil, hcv _ _, by decide, w_938, Or.inr ⟨by decide +kernel, rfl⟩⟩
  · cases hq
    exact ⟨by decide, (show 7 < p_nls.getD 282 0 by decide +kernel), [⟨0, 16, 19, 18⟩], ⟨0, 16, 23, 13⟩, [], rfl, fun y hy => Or.inr ⟨rfl, by rw [List.mem_singleton.mp hy]; decide, by rw [List.mem_singleton.mp hy]; exact w_938⟩, hcv _ _, by decide, w_474, Or.inr ⟨by decide +kernel, rfl⟩⟩
theorem cov_283 {L : Nat} {xs : Nat → Int32} : ∀ pc i, (decide (0 ≤ pc) && decide (pc < 9)) = true → m_cov (p_P L xs) p_G p_Y p_B p_HH 283 pc i := by
  intro pc i hc _ x r hr
  obtain ⟨c1, c2⟩ := m_and hc
  have c1 := of_decide_eq_true c1
  have c2 := of_decide_eq_true c2
  have hm := p_hd_mem (show p_hd 283 x = some r from hr)
  have hq := (show ∀ q ∈ p_hds, q.1 = 283 → q = (283, 0, 3, 13) by decide +kernel) _ hm rfl
  have hcv : ∀ a b : Nat, covers (⟨0, 9, a, b⟩ : ExceptionTableEntry) pc = true := fun a b => by simp only [covers, Bool.and_eq_true, decide_eq_true_eq]; exact ⟨c1, c2⟩
  rcases hq with hq
  · cases hq
    exact ⟨by decide, (show 3 < p_nls.getD 283 0 by decide +kernel), [], ⟨0, 9, 12, 18⟩, [], rfl, fun y hy => absurd hy List.not_mem_nil, hcv _ _, by decide, w_938, Or.inl ⟨⟨3, by decide⟩, rfl, by decide +kernel, rfl⟩⟩
theorem cov_284 {L : Nat} {xs : Nat → Int32} : ∀ pc i, (decide (0 ≤ pc) && decide (pc < 12)) = true → m_cov (p_P L xs) p_G p_Y p_B p_HH 284 pc i := by
  intro pc i hc _ x r hr
  obtain ⟨c1, c2⟩ := m_and hc
  have c1 := of_decide_eq_true c1
  have c2 := of_decide_eq_true c2
  have hm := p_hd_mem (show p_hd 284 x = some r from hr)
  have hq := (show ∀ q ∈ p_hds, q.1 = 284 → q = (284, 0, 5, 17) ∨ q = (284, 1, 5, 21) by decide +kernel) _ hm rfl
  have hcv : ∀ a b : Nat, covers (⟨0, 12, a, b⟩ : ExceptionTableEntry) pc = true := fun a b => by simp only [covers, Bool.and_eq_true, decide_eq_true_eq]; exact ⟨c1, c2⟩
  rcases hq with hq | hq
  · cases hq
    exact ⟨by decide, (show 5 < p_nls.getD 284 0 by decide +kernel), [], ⟨0, 12, 15, 18⟩, [⟨0, 12, 19, 13⟩], rfl, fun y hy => absurd hy List.not_mem_nil, hcv _ _, by decide, w_938, Or.inr ⟨by decide +kernel, rfl⟩⟩
  · cases hq
    exact ⟨by decide, (show 5 < p_nls.getD 284 0 by decide +kernel), [⟨0, 12, 15, 18⟩], ⟨0, 12, 19, 13⟩, [], rfl, fun y hy => Or.inr ⟨rfl, by rw [List.mem_singleton.mp hy]; decide, by rw [List.mem_singleton.mp hy]; exact w_938⟩, hcv _ _, by decide, w_474, Or.inr ⟨by decide +kernel, rfl⟩⟩
theorem cov_285 {L : Nat} {xs : Nat → Int32} : ∀ pc i, (decide (0 ≤ pc) && decide (pc < 9)) = true → m_cov (p_P L xs) p_G p_Y p_B p_HH 285 pc i := by
  intro pc i hc _ x r hr
  obtain ⟨c1, c2⟩ := m_and hc
  have c1 := of_decide_eq_true c1
  have c2 := of_decide_eq_true c2
  have hm := p_hd_mem (show p_hd 285 x = some r from hr)
  have hq := (show ∀ q ∈ p_hds, q.1 = 285 → q = (285, 0, 3, 13) by decide +kernel) _ hm rfl
  have hcv : ∀ a b : Nat, covers (⟨0, 9, a, b⟩ : ExceptionTableEntry) pc = true := fun a b => by simp only [covers, Bool.and_eq_true, decide_eq_true_eq]; exact ⟨c1, c2⟩
  rcases hq with hq
  · cases hq
    exact ⟨by decide, (show 3 < p_nls.getD 285 0 by decide +kernel), [], ⟨0, 9, 12, 18⟩, [], rfl, fun y hy => absurd hy List.not_mem_nil, hcv _ _, by decide, w_938, Or.inl ⟨⟨3, by decide⟩, rfl, by decide +kernel, rfl⟩⟩
theorem cov_286 {L : Nat} {xs : Nat → Int32} : ∀ pc i, (decide (0 ≤ pc) && decide (pc < 9)) = true → m_cov (p_P L xs) p_G p_Y p_B p_HH 286 pc i := by
  intro pc i hc _ x r hr
  obtain ⟨c1, c2⟩ := m_and hc
  have c1 := of_decide_eq_true c1
  have c2 := of_decide_eq_true c2
  have hm := p_hd_mem (show p_hd 286 x = some r from hr)
  have hq := (show ∀ q ∈ p_hds, q.1 = 286 → q = (286, 0, 3, 13) by decide +kernel) _ hm rfl
  have hcv : ∀ a b : Nat, covers (⟨0, 9, a, b⟩ : ExceptionTableEntry) pc = true := fun a b => by simp only [covers, Bool.and_eq_true, decide_eq_true_eq]; exact ⟨c1, c2⟩
  rcases hq with hq
  · cases hq
    exact ⟨by decide, (show 3 < p_nls.getD 286 0 by decide +kernel), [], ⟨0, 9, 12, 18⟩, [], rfl, fun y hy => absurd hy List.not_mem_nil, hcv _ _, by decide, w_938, Or.inl ⟨⟨3, by decide⟩, rfl, by decide +kernel, rfl⟩⟩
theorem cov_287 {L : Nat} {xs : Nat → Int32} : ∀ pc i, (decide (0 ≤ pc) && decide (pc < 9)) = true → m_cov (p_P L xs) p_G p_Y p_B p_HH 287 pc i := by
  intro pc i hc _ x r hr
  obtain ⟨c1, c2⟩ := m_and hc
  have c1 := of_decide_eq_true c1
  have c2 := of_decide_eq_true c2
  have hm := p_hd_mem (show p_hd 287 x = some r from hr)
  have hq := (show ∀ q ∈ p_hds, q.1 = 287 → q = (287, 0, 3, 13) by decide +kernel) _ hm rfl
  have hcv : ∀ a b : Nat, covers (⟨0, 9, a, b⟩ : ExceptionTableEntry) pc = true := fun a b => by simp only [covers, Bool.and_eq_true, decide_eq_true_eq]; exact ⟨c1, c2⟩
  rcases hq with hq
  · cases hq
    exact ⟨by decide, (show 3 < p_nls.getD 287 0 by decide +kernel), [], ⟨0, 9, 12, 18⟩, [], rfl, fun y hy => absurd hy List.not_mem_nil, hcv _ _, by decide, w_938, Or.inl ⟨⟨3, by decide⟩, rfl, by decide +kernel, rfl⟩⟩
theorem cov_288 {L : Nat} {xs : Nat → Int32} : ∀ pc i, (decide (0 ≤ pc) && decide (pc < 12)) = true → m_cov (p_P L xs) p_G p_Y p_B p_HH 288 pc i := by
  intro pc i hc _ x r hr
  obtain ⟨c1, c2⟩ := m_and hc
  have c1 := of_decide_eq_true c1
  have c2 := of_decide_eq_true c2
  have hm := p_hd_mem (show p_hd 288 x = some r from hr)
  have hq := (show ∀ q ∈ p_hds, q.1 = 288 → q = (288, 0, 5, 17) ∨ q = (288, 1, 5, 21) by decide +kernel) _ hm rfl
  have hcv : ∀ a b : Nat, covers (⟨0, 12, a, b⟩ : ExceptionTableEntry) pc = true := fun a b => by simp only [covers, Bool.and_eq_true, decide_eq_true_eq]; exact ⟨c1, c2⟩
  rcases hq with hq | hq
  · cases hq
    exact ⟨by decide, (show 5 < p_nls.getD 288 0 by decide +kernel), [], ⟨0, 12, 15, 18⟩, [⟨0, 12, 19, 13⟩], rfl, fun y hy => absurd hy List.not_mem_nil, hcv _ _, by decide, w_938, Or.inr ⟨by decide +kernel, rfl⟩⟩
  · cases hq
    exact ⟨by decide, (show 5 < p_nls.getD 288 0 by decide +kernel), [⟨0, 12, 15, 18⟩], ⟨0, 12, 19, 13⟩, [], rfl, fun y hy => Or.inr ⟨rfl, by rw [List.mem_singleton.mp hy]; decide, by rw [List.mem_singleton.mp hy]; exact w_938⟩, hcv _ _, by decide, w_474, Or.inr ⟨by decide +kernel, rfl⟩⟩
theorem cov_289 {L : Nat} {xs : Nat → Int32} : ∀ pc i, (decide (0 ≤ pc) && decide (pc < 9)) = true → m_cov (p_P L xs) p_G p_Y p_B p_HH 289 pc i := by
  intro pc i hc _ x r hr
  obtain ⟨c1, c2⟩ := m_and hc
  have c1 := of_decide_eq_true c1
  have c2 := of_decide_eq_true c2
  have hm := p_hd_mem (show p_hd 289 x = some r from hr)
  have hq := (show ∀ q ∈ p_hds, q.1 = 289 → q = (289, 1, 3, 13) by decide +kernel) _ hm rfl
  have hcv : ∀ a b : Nat, covers (⟨0, 9, a, b⟩ : ExceptionTableEntry) pc = true := fun a b => by simp only [covers, Bool.and_eq_true, decide_eq_true_eq]; exact ⟨c1, c2⟩
  rcases hq with hq
  · cases hq
    exact ⟨by decide, (show 3 < p_nls.getD 289 0 by decide +kernel), [], ⟨0, 9, 12, 13⟩, [], rfl, fun y hy => absurd hy List.not_mem_nil, hcv _ _, by decide, w_474, Or.inl ⟨⟨3, by decide⟩, rfl, by decide +kernel, rfl⟩⟩
theorem cov_290 {L : Nat} {xs : Nat → Int32} : ∀ pc i, (decide (0 ≤ pc) && decide (pc < 9)) = true → m_cov (p_P L xs) p_G p_Y p_B p_HH 290 pc i := by
  intro pc i hc _ x r hr
  obtain ⟨c1, c2⟩ := m_and hc
  have c1 := of_decide_eq_true c1
  have c2 := of_decide_eq_true c2
  have hm := p_hd_mem (show p_hd 290 x = some r from hr)
  have hq := (show ∀ q ∈ p_hds, q.1 = 290 → q = (290, 0, 3, 13) by decide +kernel) _ hm rfl
  have hcv : ∀ a b : Nat, covers (⟨0, 9, a, b⟩ : ExceptionTableEntry) pc = true := fun a b => by simp only [covers, Bool.and_eq_true, decide_eq_true_eq]; exact ⟨c1, c2⟩
  rcases hq with hq
  · cases hq
    exact ⟨by decide, (show 3 < p_nls.getD 290 0 by decide +kernel), [], ⟨0, 9, 12, 18⟩, [], rfl, fun y hy => absurd hy List.not_mem_nil, hcv _ _, by decide, w_938, Or.inl ⟨⟨3, by decide⟩, rfl, by decide +kernel, rfl⟩⟩
theorem cov_291 {L : Nat} {xs : Nat → Int32} : ∀ pc i, (decide (0 ≤ pc) && decide (pc < 9)) = true → m_cov (p_P L xs) p_G p_Y p_B p_HH 291 pc i := by
  intro pc i hc _ x r hr
  obtain ⟨c1, c2⟩ := m_and hc
  have c1 := of_decide_eq_true c1
  have c2 := of_decide_eq_true c2
  have hm := p_hd_mem (show p_hd 291 x = some r from hr)
  have hq := (show ∀ q ∈ p_hds, q.1 = 291 → q = (291, 0, 3, 13) by decide +kernel) _ hm rfl
  have hcv : ∀ a b : Nat, covers (⟨0, 9, a, b⟩ : ExceptionTableEntry) pc = true := fun a b => by simp only [covers, Bool.and_eq_true, decide_eq_true_eq]; exact ⟨c1, c2⟩
  rcases hq with hq
  · cases hq
    exact ⟨by decide, (show 3 < p_nls.getD 291 0 by decide +kernel), [], ⟨0, 9, 12, 18⟩, [], rfl, fun y hy => absurd hy List.not_mem_nil, hcv _ _, by decide, w_938, Or.inl ⟨⟨3, by decide⟩, rfl, by decide +kernel, rfl⟩⟩
theorem cov_292 {L : Nat} {xs : Nat → Int32} : ∀ pc i, (decide (0 ≤ pc) && decide (pc < 9)) = true → m_cov (p_P L xs) p_G p_Y p_B p_HH 292 pc i := by
  intro pc i hc _ x r hr
  obtain ⟨c1, c2⟩ := m_and hc
  have c1 := of_decide_eq_true c1
  have c2 := of_decide_eq_true c2
  have hm := p_hd_mem (show p_hd 292 x = some r from hr)
  have hq := (show ∀ q ∈ p_hds, q.1 = 292 → q = (292, 0, 3, 13) by decide +kernel) _ hm rfl
  have hcv : ∀ a b : Nat, covers (⟨0, 9, a, b⟩ : ExceptionTableEntry) pc = true := fun a b => by simp only [covers, Bool.and_eq_true, decide_eq_true_eq]; exact ⟨c1, c2⟩
  rcases hq with hq
  · cases hq
    exact ⟨by decide, (show 3 < p_nls.getD 292 0 by decide +kernel), [], ⟨0, 9, 12, 18⟩, [], rfl, fun y hy => absurd hy List.not_mem_nil, hcv _ _, by decide, w_938, Or.inl ⟨⟨3, by decide⟩, rfl, by decide +kernel, rfl⟩⟩
theorem cov_293 {L : Nat} {xs : Nat → Int32} : ∀ pc i, (decide (0 ≤ pc) && decide (pc < 10)) = true → m_cov (p_P L xs) p_G p_Y p_B p_HH 293 pc i := by
  intro pc i hc _ x r hr
  obtain ⟨c1, c2⟩ := m_and hc
  have c1 := of_decide_eq_true c1
  have c2 := of_decide_eq_true c2
  have hm := p_hd_mem (show p_hd 293 x = some r from hr)
  have hq := (show ∀ q ∈ p_hds, q.1 = 293 → q = (293, 0, 4, 15) by decide +kernel) _ hm rfl
  have hcv : ∀ a b : Nat, covers (⟨0, 10, a, b⟩ : ExceptionTableEntry) pc = true := fun a b => by simp only [covers, Bool.and_eq_true, decide_eq_true_eq]; exact ⟨c1, c2⟩
  rcases hq with hq
  · cases hq
    exact ⟨by decide, (show 4 < p_nls.getD 293 0 by decide +kernel), [], ⟨0, 10, 13, 18⟩, [], rfl, fun y hy => absurd hy List.not_mem_nil, hcv _ _, by decide, w_938, Or.inr ⟨by decide +kernel, rfl⟩⟩
theorem cov_294 {L : Nat} {xs : Nat → Int32} : ∀ pc i, (decide (0 ≤ pc) && decide (pc < 10)) = true → m_cov (p_P L xs) p_G p_Y p_B p_HH 294 pc i := by
  intro pc i hc _ x r hr
  obtain ⟨c1, c2⟩ := m_and hc
  have c1 := of_decide_eq_true c1
  have c2 := of_decide_eq_true c2
  have hm := p_hd_mem (show p_hd 294 x = some r from hr)
  have hq := (show ∀ q ∈ p_hds, q.1 = 294 → q = (294, 0, 4, 15) by decide +kernel) _ hm rfl
  have hcv : ∀ a b : Nat, covers (⟨0, 10, a, b⟩ : ExceptionTableEntry) pc = true := fun a b => by simp only [covers, Bool.and_eq_true, decide_eq_true_eq]; exact ⟨c1, c2⟩
  rcases hq with hq
  · cases hq
    exact ⟨by decide, (show 4 < p_nls.getD 294 0 by decide +kernel), [], ⟨0, 10, 13, 18⟩, [], rfl, fun y hy => absurd hy List.not_mem_nil, hcv _ _, by decide, w_938, Or.inr ⟨by decide +kernel, rfl⟩⟩
theorem cov_295 {L : Nat} {xs : Nat → Int32} : ∀ pc i, (decide (0 ≤ pc) && decide (pc < 10)) = true → m_cov (p_P L xs) p_G p_Y p_B p_HH 295 pc i := by
  intro pc i hc _ x r hr
  obtain ⟨c1, c2⟩ := m_and hc
  have c1 := of_decide_eq_true c1
  have c2 := of_decide_eq_true c2
  have hm := p_hd_mem (show p_hd 295 x = some r from hr)
  have hq := (show ∀ q ∈ p_hds, q.1 = 295 → q = (295, 0, 4, 15) by decide +kernel) _ hm rfl
  have hcv : ∀ a b : Nat, covers (⟨0, 10, a, b⟩ : ExceptionTableEntry) pc = true := fun a b => by simp only [covers, Bool.and_eq_true, decide_eq_true_eq]; exact ⟨c1, c2⟩
  rcases hq with hq
  · cases hq
    exact ⟨by decide, (show 4 < p_nls.getD 295 0 by decide +kernel), [], ⟨0, 10, 13, 18⟩, [], rfl, fun y hy => absurd hy List.not_mem_nil, hcv _ _, by decide, w_938, Or.inr ⟨by decide +kernel, rfl⟩⟩
theorem cov_296 {L : Nat} {xs : Nat → Int32} : ∀ pc i, (decide (0 ≤ pc) && decide (pc < 9)) = true → m_cov (p_P L xs) p_G p_Y p_B p_HH 296 pc i := by
  intro pc i hc _ x r hr
  obtain ⟨c1, c2⟩ := m_and hc
  have c1 := of_decide_eq_true c1
  have c2 := of_decide_eq_true c2
  have hm := p_hd_mem (show p_hd 296 x = some r from hr)
  have hq := (show ∀ q ∈ p_hds, q.1 = 296 → q = (296, 0, 3, 13) by decide +kernel) _ hm rfl
  have hcv : ∀ a b : Nat, covers (⟨0, 9, a, b⟩ : ExceptionTableEntry) pc = true := fun a b => by simp only [covers, Bool.and_eq_true, decide_eq_true_eq]; exact ⟨c1, c2⟩
  rcases hq with hq
  · cases hq
    exact ⟨by decide, (show 3 < p_nls.getD 296 0 by decide +kernel), [], ⟨0, 9, 12, 18⟩, [], rfl, fun y hy => absurd hy List.not_mem_nil, hcv _ _, by decide, w_938, Or.inl ⟨⟨3, by decide⟩, rfl, by decide +kernel, rfl⟩⟩
theorem cov_297 {L : Nat} {xs : Nat → Int32} : ∀ pc i, (decide (0 ≤ pc) && decide (pc < 10)) = true → m_cov (p_P L xs) p_G p_Y p_B p_HH 297 pc i := by
  intro pc i hc _ x r hr
  obtain ⟨c1, c2⟩ := m_and hc
  have c1 := of_decide_eq_true c1
  have c2 := of_decide_eq_true c2
  have hm := p_hd_mem (show p_hd 297 x = some r from hr)
  have hq := (show ∀ q ∈ p_hds, q.1 = 297 → q = (297, 0, 4, 15) by decide +kernel) _ hm rfl
  have hcv : ∀ a b : Nat, covers (⟨0, 10, a, b⟩ : ExceptionTableEntry) pc = true := fun a b => by simp only [covers, Bool.and_eq_true, decide_eq_true_eq]; exact ⟨c1, c2⟩
  rcases hq with hq
  · cases hq
    exact ⟨by decide, (show 4 < p_nls.getD 297 0 by decide +kernel), [], ⟨0, 10, 13, 18⟩, [], rfl, fun y hy => absurd hy List.not_mem_nil, hcv _ _, by decide, w_938, Or.inr ⟨by decide +kernel, rfl⟩⟩
theorem cov_298 {L : Nat} {xs : Nat → Int32} : ∀ pc i, (decide (0 ≤ pc) && decide (pc < 9)) = true → m_cov (p_P L xs) p_G p_Y p_B p_HH 298 pc i := by
  intro pc i hc _ x r hr
  obtain ⟨c1, c2⟩ := m_and hc
  have c1 := of_decide_eq_true c1
  have c2 := of_decide_eq_true c2
  have hm := p_hd_mem (show p_hd 298 x = some r from hr)
  have hq := (show ∀ q ∈ p_hds, q.1 = 298 → q = (298, 0, 3, 13) by decide +kernel) _ hm rfl
  have hcv : ∀ a b : Nat, covers (⟨0, 9, a, b⟩ : ExceptionTableEntry) pc = true := fun a b => by simp only [covers, Bool.and_eq_true, decide_eq_true_eq]; exact ⟨c1, c2⟩
  rcases hq with hq
  · cases hq
    exact ⟨by decide, (show 3 < p_nls.getD 298 0 by decide +kernel), [], ⟨0, 9, 12, 18⟩, [], rfl, fun y hy => absurd hy List.not_mem_nil, hcv _ _, by decide, w_938, Or.inl ⟨⟨3, by decide⟩, rfl, by decide +kernel, rfl⟩⟩
theorem cov_299 {L : Nat} {xs : Nat → Int32} : ∀ pc i, (decide (0 ≤ pc) && decide (pc < 9)) = true → m_cov (p_P L xs) p_G p_Y p_B p_HH 299 pc i := by
  intro pc i hc _ x r hr
  obtain ⟨c1, c2⟩ := m_and hc
  have c1 := of_decide_eq_true c1
  have c2 := of_decide_eq_true c2
  have hm := p_hd_mem (show p_hd 299 x = some r from hr)
  have hq := (show ∀ q ∈ p_hds, q.1 = 299 → q = (299, 0, 3, 13) by decide +kernel) _ hm rfl
  have hcv : ∀ a b : Nat, covers (⟨0, 9, a, b⟩ : ExceptionTableEntry) pc = true := fun a b => by simp only [covers, Bool.and_eq_true, decide_eq_true_eq]; exact ⟨c1, c2⟩
  rcases hq with hq
  · cases hq
    exact ⟨by decide, (show 3 < p_nls.getD 299 0 by decide +kernel), [], ⟨0, 9, 12, 18⟩, [], rfl, fun y hy => absurd hy List.not_mem_nil, hcv _ _, by decide, w_938, Or.inl ⟨⟨3, by decide⟩, rfl, by decide +kernel, rfl⟩⟩
theorem cov_300 {L : Nat} {xs : Nat → Int32} : ∀ pc i, (decide (0 ≤ pc) && decide (pc < 9)) = true → m_cov (p_P L xs) p_G p_Y p_B p_HH 300 pc i := by
  intro pc i hc _ x r hr
  obtain ⟨c1, c2⟩ := m_and hc
  have c1 := of_decide_eq_true c1
  have c2 := of_decide_eq_true c2
  have hm := p_hd_mem (show p_hd 300 x = some r from hr)
  have hq := (show ∀ q ∈ p_hds, q.1 = 300 → q = (300, 0, 3, 13) by decide +kernel) _ hm rfl
  have hcv : ∀ a b : Nat, covers (⟨0, 9, a, b⟩ : ExceptionTableEntry) pc = true := fun a b => by simp only [covers, Bool.and_eq_true, decide_eq_true_eq]; exact ⟨c1, c2⟩
  rcases hq with hq
  · cases hq
    exact ⟨by decide, (show 3 < p_nls.getD 300 0 by decide +kernel), [], ⟨0, 9, 12, 18⟩, [], rfl, fun y hy => absurd hy List.not_mem_nil, hcv _ _, by decide, w_938, Or.inl ⟨⟨3, by decide⟩, rfl, by decide +kernel, rfl⟩⟩
theorem cov_301 {L : Nat} {xs : Nat → Int32} : ∀ pc i, (decide (0 ≤ pc) && decide (pc < 10)) = true → m_cov (p_P L xs) p_G p_Y p_B p_HH 301 pc i := by
  intro pc i hc _ x r hr
  obtain ⟨c1, c2⟩ := m_and hc
  have c1 := of_decide_eq_true c1
  have c2 := of_decide_eq_true c2
  have hm := p_hd_mem (show p_hd 301 x = some r from hr)
  have hq := (show ∀ q ∈ p_hds, q.1 = 301 → q = (301, 0, 4, 15) by decide +kernel) _ hm rfl
  have hcv : ∀ a b : Nat, covers (⟨0, 10, a, b⟩ : ExceptionTableEntry) pc = true := fun a b => by simp only [covers, Bool.and_eq_true, decide_eq_true_eq]; exact ⟨c1, c2⟩
  rcases hq with hq
  · cases hq
    exact ⟨by decide, (show 4 < p_nls.getD 301 0 by decide +kernel), [], ⟨0, 10, 13, 18⟩, [], rfl, fun y hy => absurd hy List.not_mem_nil, hcv _ _, by decide, w_938, Or.inr ⟨by decide +kernel, rfl⟩⟩
theorem cov_302 {L : Nat} {xs : Nat → Int32} : ∀ pc i, (decide (0 ≤ pc) && decide (pc < 10)) = true → m_cov (p_P L xs) p_G p_Y p_B p_HH 302 pc i := by
  intro pc i hc _ x r hr
  obtain ⟨c1, c2⟩ := m_and hc
  have c1 := of_decide_eq_true c1
  have c2 := of_decide_eq_true c2
  have hm := p_hd_mem (show p_hd 302 x = some r from hr)
  have hq := (show ∀ q ∈ p_hds, q.1 = 302 → q = (302, 0, 4, 15) by decide +kernel) _ hm rfl
  have hcv : ∀ a b : Nat, covers (⟨0, 10, a, b⟩ : ExceptionTableEntry) pc = true := fun a b => by simp only [covers, Bool.and_eq_true, decide_eq_true_eq]; exact ⟨c1, c2⟩
  rcases hq with hq
  · cases hq
    exact ⟨by decide, (show 4 < p_nls.getD 302 0 by decide +kernel), [], ⟨0, 10, 13, 18⟩, [], rfl, fun y hy => absurd hy List.not_mem_nil, hcv _ _, by decide, w_938, Or.inr ⟨by decide +kernel, rfl⟩⟩
theorem cov_303 {L : Nat} {xs : Nat → Int32} : ∀ pc i, (decide (0 ≤ pc) && decide (pc < 8)) = true → m_cov (p_P L xs) p_G p_Y p_B p_HH 303 pc i := by
  intro pc i hc _ x r hr
  obtain ⟨c1, c2⟩ := m_and hc
  have c1 := of_decide_eq_true c1
  have c2 := of_decide_eq_true c2
  have hm := p_hd_mem (show p_hd 303 x = some r from hr)
  have hq := (show ∀ q ∈ p_hds, q.1 = 303 → q = (303, 0, 3, 12) by decide +kernel) _ hm rfl
  have hcv : ∀ a b : Nat, covers (⟨0, 8, a, b⟩ : ExceptionTableEntry) pc = true := fun a b => by simp only [covers, Bool.and_eq_true, decide_eq_true_eq]; exact ⟨c1, c2⟩
  rcases hq with hq
  · cases hq
    exact ⟨by decide, (show 3 < p_nls.getD 303 0 by decide +kernel), [], ⟨0, 8, 11, 18⟩, [], rfl, fun y hy => absurd hy List.not_mem_nil, hcv _ _, by decide, w_938, Or.inl ⟨⟨3, by decide⟩, rfl, by decide +kernel, rfl⟩⟩
theorem cov_304 {L : Nat} {xs : Nat → Int32} : ∀ pc i, (decide (0 ≤ pc) && decide (pc < 9)) = true → m_cov (p_P L xs) p_G p_Y p_B p_HH 304 pc i := by
  intro pc i hc _ x r hr
  obtain ⟨c1, c2⟩ := m_and hc
  have c1 := of_decide_eq_true c1
  have c2 := of_decide_eq_true c2
  have hm := p_hd_mem (show p_hd 304 x = some r from hr)
  have hq := (show ∀ q ∈ p_hds, q.1 = 304 → q = (304, 0, 3, 13) by decide +kernel) _ hm rfl
  have hcv : ∀ a b : Nat, covers (⟨0, 9, a, b⟩ : ExceptionTableEntry) pc = true := fun a b => by simp only [covers, Bool.and_eq_true, decide_eq_true_eq]; exact ⟨c1, c2⟩
  rcases hq with hq
  · cases hq
    exact ⟨by decide, (show 3 < p_nls.getD 304 0 by decide +kernel), [], ⟨0, 9, 12, 18⟩, [], rfl, fun y hy => absurd hy List.not_mem_nil, hcv _ _, by decide, w_938, Or.inl ⟨⟨3, by decide⟩, rfl, by decide +kernel, rfl⟩⟩
theorem cov_305 {L : Nat} {xs : Nat → Int32} : ∀ pc i, (decide (0 ≤ pc) && decide (pc < 9)) = true → m_cov (p_P L xs) p_G p_Y p_B p_HH 305 pc i := by
  intro pc i hc _ x r hr
  obtain ⟨c1, c2⟩ := m_and hc
  have c1 := of_decide_eq_true c1
  have c2 := of_decide_eq_true c2
  have hm := p_hd_mem (show p_hd 305 x = some r from hr)
  have hq := (show ∀ q ∈ p_hds, q.1 = 305 → q = (305, 0, 3, 13) by decide +kernel) _ hm rfl
  have hcv : ∀ a b : Nat, covers (⟨0, 9, a, b⟩ : ExceptionTableEntry) pc = true := fun a b => by simp only [covers, Bool.and_eq_true, decide_eq_true_eq]; exact ⟨c1, c2⟩
  rcases hq with hq
  · cases hq
    exact ⟨by decide, (show 3 < p_nls.getD 305 0 by decide +kernel), [], ⟨0, 9, 12, 18⟩, [], rfl, fun y hy => absurd hy List.not_mem_nil, hcv _ _, by decide, w_938, Or.inl ⟨⟨3, by decide⟩, rfl, by decide +kernel, rfl⟩⟩
theorem cov_306 {L : Nat} {xs : Nat → Int32} : ∀ pc i, (decide (0 ≤ pc) && decide (pc < 9)) = true → m_cov (p_P L xs) p_G p_Y p_B p_HH 306 pc i := by
  intro pc i hc _ x r hr
  obtain ⟨c1, c2⟩ := m_and hc
  have c1 := of_decide_eq_true c1
  have c2 := of_decide_eq_true c2
  have hm := p_hd_mem (show p_hd 306 x = some r from hr)
  have hq := (show ∀ q ∈ p_hds, q.1 = 306 → q = (306, 1, 3, 13) by decide +kernel) _ hm rfl
  have hcv : ∀ a b : Nat, covers (⟨0, 9, a, b⟩ : ExceptionTableEntry) pc = true := fun a b => by simp only [covers, Bool.and_eq_true, decide_eq_true_eq]; exact ⟨c1, c2⟩
  rcases hq with hq
  · cases hq
    exact ⟨by decide, (show 3 < p_nls.getD 306 0 by decide +kernel), [], ⟨0, 9, 12, 13⟩, [], rfl, fun y hy => absurd hy List.not_mem_nil, hcv _ _, by decide, w_474, Or.inl ⟨⟨3, by decide⟩, rfl, by decide +kernel, rfl⟩⟩
theorem cov_307 {L : Nat} {xs : Nat → Int32} : ∀ pc i, (decide (0 ≤ pc) && decide (pc < 9)) = true → m_cov (p_P L xs) p_G p_Y p_B p_HH 307 pc i := by
  intro pc i hc _ x r hr
  obtain ⟨c1, c2⟩ := m_and hc
  have c1 := of_decide_eq_true c1
  have c2 := of_decide_eq_true c2
  have hm := p_hd_mem (show p_hd 307 x = some r from hr)
  have hq := (show ∀ q ∈ p_hds, q.1 = 307 → q = (307, 0, 3, 13) by decide +kernel) _ hm rfl
  have hcv : ∀ a b : Nat, covers (⟨0, 9, a, b⟩ : ExceptionTableEntry) pc = true := fun a b => by simp only [covers, Bool.and_eq_true, decide_eq_true_eq]; exact ⟨c1, c2⟩
  rcases hq with hq
  · cases hq
    exact ⟨by decide, (show 3 < p_nls.getD 307 0 by decide +kernel), [], ⟨0, 9, 12, 18⟩, [], rfl, fun y hy => absurd hy List.not_mem_nil, hcv _ _, by decide, w_938, Or.inl ⟨⟨3, by decide⟩, rfl, by decide +kernel, rfl⟩⟩
theorem cov_308 {L : Nat} {xs : Nat → Int32} : ∀ pc i, (decide (0 ≤ pc) && decide (pc < 9)) = true → m_cov (p_P L xs) p_G p_Y p_B p_HH 308 pc i := by
  intro pc i hc _ x r hr
  obtain ⟨c1, c2⟩ := m_and hc
  have c1 := of_decide_eq_true c1
  have c2 := of_decide_eq_true c2
  have hm := p_hd_mem (show p_hd 308 x = some r from hr)
  have hq := (show ∀ q ∈ p_hds, q.1 = 308 → q = (308, 1, 3, 13) by decide +kernel) _ hm rfl
  have hcv : ∀ a b : Nat, covers (⟨0, 9, a, b⟩ : ExceptionTableEntry) pc = true := fun a b => by simp only [covers, Bool.and_eq_true, decide_eq_true_eq]; exact ⟨c1, c2⟩
  rcases hq with hq
  · cases hq
    exact ⟨by decide, (show 3 < p_nls.getD 308 0 by decide +kernel), [], ⟨0, 9, 12, 13⟩, [], rfl, fun y hy => absurd hy List.not_mem_nil, hcv _ _, by decide, w_474, Or.inl ⟨⟨3, by decide⟩, rfl, by decide +kernel, rfl⟩⟩
