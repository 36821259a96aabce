/-! what the calls make of it stays in order (pure) -/
section OK
variable {A : q_A} {B : Int} {x q p t r v c a l : Int}
theorem ok_if {e : Prop} [Decidable e] {A' A : q_A} (h : e → q_ok B A') (k : q_ok B A) : q_ok B (a_if e A' A) := by
  unfold a_if
  split
  · exact h ‹_›
  · exact k
/-- the next call's bound -/
abbrev nB (B : Int) : Int := B + 1900000
theorem ok_n (ok : q_ok B A) : q_ok (nB B) A := ok_m (show B ≤ B + 1900000 by omega) ok
theorem ok_w (ok : q_ok B A) {s : sp_R} {B' : Int} (hb : B' ≤ B + 1900000) (hI : sp_I (aG A) 4 s) (hB : sp_B B' s) (h0 : s 0 ≤ 1000000) (hz : ∀ k, 2392 ≤ k → s k = 0) : q_ok (nB B) (a_op A s) := ok_op (show B ≤ B + 1900000 by omega) ok ⟨hI, B_m hb hB, h0, hz⟩
theorem ok_op0 (ok : q_ok B A) : q_ok (nB B) (a_op A (aS A)) := ok_n (ok_op (Int.le_refl _) ok ok.2.1)
theorem ok_kl (ok : q_ok B A) : q_ok (nB B) (a_kl A x) := ok_if (fun e => by
  obtain ⟨⟨d0, d1⟩, -⟩ := e
  have gd := ok.1
  obtain ⟨hI, hB, hC, hZ⟩ := ok.2.1
  have d4 : x < 4 := by have := hI.2.1; omega
  have z := I_cr gd hI d0 d4 hB
  exact ok_w ok (by omega) z.1 z.2.2 (by rw [c_cr (Or.inl rfl) hI d0 d4 hB]; exact hC) (fun k hk => (c_cr (Or.inr hk) hI d0 d4 hB).trans (hZ k hk))) (ok_n ok)
theorem ok_cn (ok : q_ok B A) : q_ok (nB B) (a_cn A q) := ok_if (fun e => by
  obtain ⟨⟨d0, d1⟩, -⟩ := e
  obtain ⟨hI, hB, hC, hZ⟩ := ok.2.1
  exact ok_w ok (by omega) (I_bad hI d0 d1).1 (B_bad hI d0 d1 (by omega) hB) (by rw [c_bad (Or.inl rfl) hI d0 d1]; exact hC) (fun k hk => (c_bad (Or.inr hk) hI d0 d1).trans (hZ k hk))) (ok_n ok)
theorem ok_pl (ok : q_ok B A) : q_ok (nB B) (a_pl A q p t) := ok_if (fun e => by
  obtain ⟨⟨⟨d0, d1⟩, ⟨p0, p1⟩, t0, t1⟩, -⟩ := e
  obtain ⟨hI, hB, hC, hZ⟩ := ok.2.1
  have hn := I_n hI
  have b1 := hB.1
  have z := I_u (v := p) (j := 11) hI d0 d1 (by omega) (by omega)
  have z2 := I_u (v := t) (j := 12) z.1 d0 (by rw [z.2]; exact d1) (by omega) (by omega)
  refine ok_w ok (by omega) z2.1 (B_u (by omega) (by omega) (B_u (by omega) (by omega) hB)) ?_ (fun k hk => ?_)
  · unfold sp_u
    rw [u1_n (by omega), u1_n (by omega)]
    exact hC
  · unfold sp_u
    rw [u1_n (by omega), u1_n (by omega)]
    exact hZ k hk) (ok_n ok)
theorem ok_pk (ok : q_ok B A) : q_ok (nB B) (a_pk A x r v) := ok_if (fun e => by
  obtain ⟨⟨⟨d0, d1⟩, r0, r1⟩, v0, v1⟩ := e
  obtain ⟨hI, hB, hC, hZ⟩ := ok.2.1
  have d4 : x < 4 := by have := hI.2.1; omega
  have b1 := hB.1
  refine ok_w ok (by omega) (I_nc (by unfold q_cr; omega) hI) (B_u (by omega) (by omega) hB) ?_ (fun k hk => ?_)
  · rw [u1_n (by omega)]
    exact hC
  · rw [u1_n (by omega)]
    exact hZ k hk) (ok_n ok)
theorem ok_ts (ok : q_ok B A) : q_ok (nB B) (a_ts A x) := ok_if (fun e => by
  obtain ⟨⟨d0, d1⟩, -⟩ := e
  obtain ⟨hI, hB, hC, hZ⟩ := ok.2.1
  have d4 : x < 4 := by have := hI.2.1; omega
  exact ok_w ok (by omega) (I_sn d0 d4 (Or.inl rfl) hI).1 (B_sn d0 d4 (Or.inl rfl) hI hB) (by rw [c_sn (Or.inl rfl) hI d0 d4 (Or.inl rfl)]; exact hC) (fun k hk => (c_sn (Or.inr hk) hI d0 d4 (Or.inl rfl)).trans (hZ k hk))) (ok_n ok)
theorem B_l9 {s : sp_R} (hB : sp_B B s) (d0 : 0 ≤ x) (d4 : x < 4) : sp_B B (sp_ls s x) := by
  have b1 := hB.1
  refine ⟨hB.1, by rw [ls_n (by omega)]; exact hB.2.1, fun j hj => ?_⟩
  have := hB.2.2 j hj
  unfold sp_ls
  split <;> omega
theorem ok_rp (ok : q_ok B A) : q_ok (nB B) (a_rp A x) := ok_if (fun e => by
  obtain ⟨⟨⟨d0, d1⟩, -⟩, -⟩ := e
  have gd := ok.1
  obtain ⟨hI, hB, hC, hZ⟩ := ok.2.1
  have d4 : x < 4 := by have := hI.2.1; omega
  have b1 := hB.1
  have b2 := hB.2.1
  have g8 := gd.2.2.2.2.2.2.2.2.2
  have zI := (I_sn d0 d4 (Or.inl rfl) hI).1
  have zB := B_l9 (B_sn d0 d4 (Or.inl rfl) hI hB) d0 d4
  have zl : sp_I (aG A) 4 (sp_rp1 (aS A) x) := I_cg (fun k hk => ls_n (by unfold q_cr at hk; omega)) zI
  have z0 : sp_rp1 (aS A) x 0 = aS A 0 := (ls_n (by omega)).trans (c_sn (Or.inl rfl) hI d0 d4 (Or.inl rfl))
  refine ok_w (B' := B + 2) ok (by omega) (I_nc (by unfold q_cr; omega) (I_nc (by unfold q_cr; omega) zl)) (B_u (by omega) (by rw [z0]; omega) (B_u (by omega) (by omega) zB)) ?_ (fun k hk => ?_)
  · unfold sp_rp2
    rw [u1_n (by omega), u1_n (by omega), z0]
    exact hC
  · unfold sp_rp2
    rw [u1_n (by omega), u1_n (by omega)]
    exact (ls_n (by omega)).trans ((c_sn (Or.inr hk) hI d0 d4 (Or.inl rfl)).trans (hZ k hk))) (ok_n ok)
theorem ok_rn (ok : q_ok B A) : q_ok (nB B) (a_rn A t) := ok_if (fun e => by
  obtain ⟨⟨d0, d1⟩, d2⟩ := e
  have gd := ok.1
  have hJ := row_J ok.2.1
  obtain ⟨hI, hB, hC, hZ⟩ := ok.2.1
  have z := J_tn gd t.toNat B (aS A) hJ
  have y := c_tn gd t.toNat B (aS A) hJ
  exact ok_w ok (by omega) z.1 z.2.2 (by rw [y.1]; omega) (fun k hk => (y.2 k hk).trans (hZ k hk))) (ok_n ok)
theorem ok_sb (ok : q_ok B A) : q_ok (nB B) (a_sb A x c a p l) := ok_if (fun e => by
  obtain ⟨⟨⟨⟨d0, d1⟩, c0, c1⟩, ⟨p0, p1⟩, l0, l1⟩, e1, e2⟩ := e
  obtain ⟨hI, hB, hC, hZ⟩ := ok.2.1
  have hn := I_n hI
  have hl8 := ok.1.2.1.1
  have d4 : x < 4 := by have := hI.2.1; omega
  have zI := s1_I (a := a) (p := p) (l := l) hI (by omega) d0 d1 c0 c1
  have zB := s1_B (a := a) hB (by omega) (by omega) d0 d4 c0 (by omega) p0 p1 l0 l1
  have z0 : sp_s1 (aS A) x c a p l 0 = aS A 0 := s1_g (by omega) (by omega) (by omega)
  refine ok_w ok (by omega) (I_no (by omega) (by omega) zI).1 (B_no zI (by omega) (by omega) (by omega) (by omega) zB) ?_ (fun k hk => ?_)
  · show sp_no (sp_s1 (aS A) x c a p l) 0 x (aS A 1) 0 ≤ _
    rw [c_no (Or.inl rfl) zI (by omega) (by omega), z0]
    exact hC
  · refine (c_no (Or.inr hk) zI (by omega) (by omega)).trans ?_
    unfold sp_s1 sp_u
    rw [u1_n (by omega), u1_n (by omega), u1_n (by omega), u1_n (by omega), u1_n (by omega), u1_n (by omega), u1_n (by omega)]
    unfold sp_z0
    split
    · rfl
    · exact hZ k hk) (ok_n ok)
theorem ok_un (ok : q_ok B A) : q_ok (nB B) (a_un A) := by
  refine ok_n ?_
  unfold a_un
  obtain ⟨k1, k2, ⟨k3, k4⟩, k5, k6⟩ := id ok
  split
  · exact ok
  · exact ⟨k1, k4 _ (by omega), ⟨show aN A - 1 ≤ 10 by omega, fun i hi => k4 i (by have hi : i < aN A - 1 := hi; omega)⟩, k5, k6⟩
theorem ok_sv (ok : q_ok B A) : q_ok (nB B) (a_sv A) := ok_n ⟨ok.1, ok.2.1, ok.2.2.1, fun _ => ok.2.1, ok.2.2.2.2⟩
theorem ok_rt (ok : q_ok B A) : q_ok (nB B) (a_rt A) := by
  refine ok_n ?_
  unfold a_rt
  obtain ⟨k1, k2, ⟨k3, k4⟩, k5, k6⟩ := id ok
  split
  · exact ⟨k1, k5 ‹_›, ⟨Nat.zero_le _, fun i hi => absurd hi (Nat.not_lt_zero i)⟩, k5, k6⟩
  · exact ok
theorem ok_fe (ok : q_ok B A) {v0 v1 v2 v3 v4 : Int32} : q_ok (nB B) (a_fe A v0 v1 v2 v3 v4) := by
  refine ok_n ?_
  unfold a_fe
  split
  · exact ⟨ok.1, ok.2.1, ok.2.2.1, ok.2.2.2.1, ‹_›⟩
  · exact ok
theorem ok_er (ok : q_ok B A) {e : Int} : q_ok (nB B) (a_er A e) := ok_n ⟨ok.1, ok.2.1, ok.2.2.1, ok.2.2.2.1, Nat.zero_le _⟩
theorem r0_I {G : tx_G} (gd : q_gd G) : sp_I G 4 sp_r0 := by
  have g7 := gd.2.2.2.2.2.2.2.2.1
  have e : ∀ j : Nat, ¬ (28 ≤ j ∧ j < 36) → sp_r0 j = 0 := fun j hj => if_neg hj
  have e1 : ∀ j : Nat, (28 ≤ j ∧ j < 36) → sp_r0 j = -1 := fun j hj => if_pos hj
  refine ⟨⟨by rw [e 1 (by omega)]; omega, by rw [e 2 (by omega)]; omega, fun d hd => ?_, fun d hd => ?_, fun d k hd hk => ?_, fun q hq => ?_⟩, gd.2.2.1, g7⟩
  · rw [e 1 (by omega), e1 (28 + d) (by omega), e1 (32 + d) (by omega)]
    omega
  · rw [e (44 + d) (by omega)]
    omega
  · rw [e (44 + d) (by omega)] at hk
    omega
  · rw [e 1 (by omega)] at hq
    omega
theorem ok_ld (ok : q_ok B A) {G : tx_G} (gd : q_gd G) : q_ok (nB B) (a_ld A G) := by
  refine ok_n ⟨gd, ⟨r0_I gd, ?_, (show sp_r0 0 ≤ 1000000 by decide), fun k hk => if_neg (by omega)⟩, ⟨Nat.zero_le _, fun i hi => absurd hi (Nat.not_lt_zero i)⟩, (fun e => by cases e), Nat.zero_le _⟩
  have b1 := ok.2.1.2.1.1
  refine ⟨b1, ?_, fun j hj => ?_⟩
  · show 0 ≤ sp_r0 0 ∧ sp_r0 0 + 2000 ≤ B
    rw [show sp_r0 0 = 0 from rfl]
    omega
  · show -B ≤ sp_r0 j ∧ sp_r0 j ≤ B
    unfold sp_r0
    split <;> omega
end OK
