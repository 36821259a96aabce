/-! the class: load, exactly -/
theorem CX_ext {ow : Nat → Nat} {h h' : m_H} {F F' : m_M} {u p : Nat} {A : q_A} {B : Int} (ok : q_ok B A) (X : q_CX ow h F u p A) (en : m_n h ≤ m_n h') (e9 : m_n h' ≤ 900000) (ek : ∀ x, x < m_n h → m_k h' x = m_k h x ∧ m_l h' x = m_l h x) (eR : ∀ x y, x < m_n h → m_R h' x y = m_R h x y) (eF : ∀ x y, x < m_n h → F' x y = F x y) : q_CX ow h' F' u p A := by
  obtain ⟨C, ⟨⟨nx1, nx2⟩, hn2, hhi⟩, ⟨hk6, hke⟩, ⟨t1, t2, t3⟩⟩ := id X
  obtain ⟨gd, ⟨hI, hB, hC, hZ⟩, ⟨n10, hH⟩, hK, f9⟩ := id ok
  obtain ⟨⟨⟨⟨s1, s2⟩, k0, r00, k1, l1, r04, k133, r133, k134, l134⟩, c2, c3⟩, KQ0, ⟨K, hr, Z⟩, c4⟩ := C
  have hX : m_X = 1000000000 := rfl
  have pn := PW_pn KQ0.2.1
  have KO : ∀ v, KS ow h F v → KS ow h' F' v := fun v N => KS_cg N en (by omega) ek (fun _ _ => rfl) (fun x y hx _ => eR x y hx) (fun x hx => eF x 0 (by have := CW_bn N.2.1; omega))
  have un := CW_un K.2.1
  have hs : ∀ i, q_sl h' i = q_sl h i := fun i => by
    unfold q_sl
    rw [eR 134 i (by omega), eR 0 5 (by omega), eR 0 7 (by omega)]
  have ct : ∀ j t, j < 12 → sp_I (aG A) 4 t → c_ct h F p (aG A) j t → c_ct h' F' p (aG A) j t := fun j t hj ht hc => by
    obtain ⟨v, e1, e2, e3⟩ := hc
    obtain ⟨d1, d2, d3⟩ := c4 j hj v e1
    exact ⟨v, (hs j).trans e1, (eR v 0 (CW_un d2.2.1)).trans e2, Z_out ht e3 (fun x y hx => eF x y (KS_o d2 hx).2)⟩
  refine ⟨⟨⟨⟨⟨by omega, e9⟩, (ek 0 (by omega)).1.trans k0, (eR 0 0 (by omega)).trans r00, (ek 1 (by omega)).1.trans k1, (ek 1 (by omega)).2.trans l1, (eR 0 4 (by omega)).trans r04, (ek 133 (by omega)).1.trans k133, (eR 133 0 (by omega)).trans r133, (ek 134 (by omega)).1.trans k134, (ek 134 (by omega)).2.trans l134⟩, c2, (eR 0 3 (by omega)).trans c3⟩, KQ_cg KQ0 en (by omega) ek (fun _ _ => rfl) (fun x y hx _ => eR x y hx) (fun x y hx => eF x y (by omega)) (fun a y ha h1 h2 => eF a y h2), ⟨KO u K, (eR u 0 un).trans hr, Z_out hI Z (fun x y hx => eF x y (KS_o K hx).2)⟩, fun i hi v hv => ?_⟩, ⟨by rw [eF 133 1 (by omega)]; exact ⟨nx1, nx2⟩, (eF 133 2 (by omega)).trans hn2, fun i hi => ?_⟩, ⟨(eF 0 6 (by omega)).trans hk6, fun e => ct 10 _ (by decide) (hK e).1 (hke e)⟩, ⟨(eF 0 1 (by omega)).trans t1, fun k hk => (eF 1 k (by omega)).trans (t2 k hk), (eF 0 2 (by omega)).trans t3⟩⟩
  · rw [hs] at hv
    obtain ⟨d1, d2, d3⟩ := c4 i hi v hv
    exact ⟨d1, KO v d2, fun j hj e => d3 j hj (by rw [hs] at e; exact e)⟩
  · rw [eF 133 1 (by omega)]
    exact ct _ _ (by omega) (hH i hi).1 (hhi i hi)
/-- the text's place changed -/
theorem CX_tx {ow : Nat → Nat} {h : m_H} {F F' : m_M} {u p : Nat} {A : q_A} {B : Int} (ok : q_ok B A) (X : q_CX ow h F u p A) {bb : Nat → Int} {n : Nat} {e : Int} (f : ∀ x y, ¬ x < 2 → F' x y = F x y) (f6 : F' 0 6 = F 0 6) (g1 : F' 0 1 = (n : Int)) (g2 : ∀ k, k < n → F' 1 k = tx_sb (bb k)) (g3 : F' 0 2 = e) : q_CX ow h F' u p (aG A, aS A, (aN A, aH A), (aK A, aR A), (bb, n), e) := by
  obtain ⟨C, ⟨⟨nx1, nx2⟩, hn2, hhi⟩, ⟨hk6, hke⟩, ⟨t1, t2, t3⟩⟩ := id X
  obtain ⟨gd, ⟨hI, hB, hC, hZ⟩, ⟨n10, hH⟩, hK, f9⟩ := id ok
  obtain ⟨C2, ct2⟩ := C0_s (F' := F') C hI (fun x y hx => f x y (by omega))
  refine ⟨C2, ⟨by rw [f 133 1 (by omega)]; exact ⟨nx1, nx2⟩, (f 133 2 (by omega)).trans hn2, fun i hi => ?_⟩, ⟨f6.trans hk6, fun e => ct2 10 _ (by decide) (hK e).1 (hke e)⟩, ⟨g1, g2, g3⟩⟩
  have hi : i < aN A := hi
  rw [f 133 1 (by omega)]
  exact ct2 _ _ (by omega) (hH i hi).1 (hhi i hi)
theorem RS_PW {h : m_H} {r l : Nat} (S : RS h r l) : PW h (r + 7) := by
  obtain ⟨pk, pr2, pr10, ck, cl, ok, o0, o1, o3, sk, sl, ak, al, bk, bl⟩ := RS_p S
  have n := RS_n S
  exact ⟨by omega, RS_X S, pk, pr2, pr10, ck, cl, ok, o0, o1, o3, sk, sl, ak, bk, bl.trans al.symm⟩
def o_l (ow : Nat → Nat) (r n : Nat) : Nat → Nat := fun x => if x < r then ow x else if x < n then (if r + 7 ≤ x ∧ x < r + 13 then r + 7 else x) else n
/-- a text's program taken over by a new World -/
theorem CX_ld {ow : Nat → Nat} {h h3 h5 : m_H} {F F3 F6 : m_M} {u p r l n : Nat} {A : q_A} {G : tx_G} (X : q_CX ow h F u p A) (hr : r = m_n h) (S : RS h3 r l) (KY : q_K h3 r l F3 G) (HC : q_C r F3 G.2.2) (hcl : G.2.2.length ≤ l) (g3 : q_g3 G) (b3 : ∀ x, x < r → m_k h3 x = m_k h x ∧ m_l h3 x = m_l h x ∧ ∀ y, m_R h3 x y = m_R h x y) (c3 : ∀ x y, x < r → F3 x y = F x y) (hn : n = m_n h3) (n9 : n ≤ 899000) (W : CW h5 n (n + 1)) (up : m_R h5 n 0 = some (r + 7)) (Gr : q_gr (m_mk h3 10 0 7) h5 n 124 2736) (Z : q_zz n (n + 1) G (-1) F6 sp_r0) (f6 : ∀ x y, x < n → ¬ x = 0 → ¬ x = 133 → F6 x y = F3 x y) (i1 : F6 0 1 = 0) (i2 : F6 0 2 = -1) (i6 : F6 0 6 = 0) (j1 : F6 133 1 = F 133 1) (j2 : F6 133 2 = 0) : q_CX (o_l ow r n) (m_setR h5 0 3 (some n)) F6 n (r + 7) (a_ld A G) := by
  subst hn
  obtain ⟨C, ⟨⟨nx1, nx2⟩, -⟩, -⟩ := X
  obtain ⟨c1, KQ0, ⟨K, hru, -⟩, c4⟩ := C
  have c1' := c1
  obtain ⟨⟨⟨s1, s2⟩, k0, r00, k1, l1, r04, k133, r133, k134, l134⟩, c2, c3'⟩ := c1
  have hX : m_X = 1000000000 := rfl
  obtain ⟨g1, g2, g3', g4, g5⟩ := Gr
  rw [h_n_mk] at g1 g4 g5
  have sn := RS_n S
  have ek : ∀ x, x < m_n h3 → m_k h5 x = m_k h3 x ∧ m_l h5 x = m_l h3 x := fun x hx => by rw [(g4 x (by omega)).1, (g4 x (by omega)).2, hk_old (by omega), hl_old (by omega)]; exact ⟨rfl, rfl⟩
  have eR : ∀ x y, x < m_n h3 → m_R h5 x y = m_R h3 x y := fun x y hx => by rw [g5 x y (by omega) (by omega), hR_old (by omega)]
  have ek2 : ∀ x, x < m_n h → m_k h5 x = m_k h x ∧ m_l h5 x = m_l h x := fun x hx => by rw [(ek x (by omega)).1, (ek x (by omega)).2, (b3 x (by omega)).1, (b3 x (by omega)).2.1]; exact ⟨rfl, rfl⟩
  have eR2 : ∀ x y, x < m_n h → m_R h5 x y = m_R h x y := fun x y hx => by rw [eR x y (by omega), (b3 x (by omega)).2.2 y]
  have eR3 : ∀ x y, x < m_n h → ¬ (x = 0 ∧ y = 3) → m_R (m_setR h5 0 3 (some (m_n h3))) x y = m_R h x y := fun x y hx h1 => by rw [h_R_setR, if_neg h1]; exact eR2 x y hx
  have olo : ∀ x, x < r → o_l ow r (m_n h3) x = ow x := fun x hx => if_pos hx
  have b1 : bo (m_n h3) = m_n h3 + 1 := by have := bo_or (m_n h3); omega
  have fp : ∀ x y, r ≤ x → x < m_n h3 → F6 x y = F3 x y := fun x y h1 h2 => f6 x y h2 (by omega) (by omega)
  have KO : ∀ v, KS ow h F v → KS (o_l ow r (m_n h3)) (m_setR h5 0 3 (some (m_n h3))) F6 v := fun v N => by
    have vn := CW_un N.2.1
    have vb := CW_bn N.2.1
    refine KS_cg N (by rw [h_n_setR]; omega) (by rw [h_n_setR]; omega) ek2 (fun x hx => olo x (by omega)) (fun x y hx hxy => eR3 x y hx (fun e => ?_)) (fun x hx => ?_)
    · refine KS_s c1' N (x := x) ?_ (by omega)
      rcases hxy with e2 | e2
      · exact Or.inl e2.1
      · exact Or.inr e2
    · have z := KS_s c1' N (x := x) (Or.inr hx)
      rw [f6 x 0 (by omega) (by omega) (by omega)]
      exact c3 x 0 (by omega)
  have hs : ∀ i, q_sl (m_setR h5 0 3 (some (m_n h3))) i = q_sl h i := fun i => by
    unfold q_sl
    rw [eR3 134 i (by omega) (by omega), eR3 0 5 (by omega) (by omega), eR3 0 7 (by omega) (by omega)]
  have al : m_l h3 (r + 11) = l := (RS_p S).2.2.2.2.2.2.2.2.2.2.2.2.1
  obtain ⟨⟨d0, d3, d4, d5, d6, d7, d8, d9⟩, y1, y8, yc⟩ := KY
  obtain ⟨hc1, hc2⟩ := HC
  have P : PW (m_setR h5 0 3 (some (m_n h3))) (r + 7) := PW_cg (RS_PW S) (by rw [h_n_setR]; omega) (by rw [h_n_setR]; omega) ek (fun x y hx h1 => by rw [sR_na (by omega)]; exact eR x y hx)
  have cmd : ∀ i cm, G.2.1[i]? = some cm → ∃ a : Nat, m_R (m_setR h5 0 3 (some (m_n h3))) (r + 7 + 1) i = some a ∧ a < m_n (m_setR h5 0 3 (some (m_n h3))) ∧ m_k (m_setR h5 0 3 (some (m_n h3))) a = 1 ∧ F6 a 1 = cm 1 ∧ F6 a 2 = cm 2 ∧ F6 a 3 = cm 3 ∧ F6 a 4 = cm 4 ∧ F6 a 5 = cm 5 ∧ F6 a 6 = cm 6 ∧ F6 a 7 = cm 7 := fun i cm hc => by
    obtain ⟨a, t, a1, ⟨a2, a3⟩, a4, a5, a6, a7, m1, m2, m3, m4, m5, m6, m7⟩ := yc i cm hc
    have ff : ∀ y, F6 a y = F3 a y := fun y => fp a y (by omega) a3
    exact ⟨a, by rw [sR_na (by omega), eR _ _ (by omega)]; exact a1, by rw [h_n_setR]; omega, by rw [h_k_setR, (ek _ a3).1]; exact a4, (ff 1).trans m1, (ff 2).trans m2, (ff 3).trans m3, (ff 4).trans m4, (ff 5).trans m5, (ff 6).trans m6, (ff 7).trans m7⟩
  refine ⟨⟨⟨⟨⟨by rw [h_n_setR]; omega, by rw [h_n_setR]; omega⟩, by rw [h_k_setR, (ek2 _ (by omega)).1]; exact k0, by rw [eR3 _ _ (by omega) (by omega)]; exact r00, by rw [h_k_setR, (ek2 _ (by omega)).1]; exact k1, by rw [h_l_setR, (ek2 _ (by omega)).2]; exact l1, by rw [eR3 _ _ (by omega) (by omega)]; exact r04, by rw [h_k_setR, (ek2 _ (by omega)).1]; exact k133, by rw [eR3 _ _ (by omega) (by omega)]; exact r133, by rw [h_k_setR, (ek2 _ (by omega)).1]; exact k134, by rw [h_l_setR, (ek2 _ (by omega)).2]; exact l134⟩, fun x hx => (olo x (by omega)).trans (c2 x hx), sR_eq rfl rfl⟩, ⟨⟨Or.inr (by omega), fun x h1 h2 => ?_⟩, P, ⟨⟨?_, ?_, ?_, ?_, ?_, ?_, ?_⟩, ?_, cmd, ⟨?_, ?_⟩, fun k hk => ?_⟩, g3, ?_, fun i a hi ha => ?_⟩, ⟨⟨⟨Or.inr (by omega), ?_, fun x h1 h2 => ?_⟩, ?_, fun d hd => ?_, ?_⟩, ?_, ?_⟩, fun i hi v hv => ?_⟩, ⟨by rw [j1]; exact ⟨nx1, nx2⟩, j2, fun i hi => absurd hi (Nat.not_lt_zero i)⟩, ⟨i6, fun e => by cases e⟩, ⟨i1, fun k hk => absurd hk (Nat.not_lt_zero k), i2⟩⟩
  · unfold o_l
    rw [if_neg (by omega), if_pos (by omega), if_pos (by omega)]
  · rw [fp _ _ (by omega) (by omega)]; exact d0
  · rw [fp _ _ (by omega) (by omega)]; exact d4
  · rw [fp _ _ (by omega) (by omega)]; exact d5
  · rw [fp _ _ (by omega) (by omega)]; exact d6
  · rw [fp _ _ (by omega) (by omega)]; exact d7
  · rw [fp _ _ (by omega) (by omega)]; exact d8
  · rw [fp _ _ (by omega) (by omega)]; exact d9
  · rw [fp _ _ (by omega) (by omega)]; exact y1
  · rw [show r + 7 + 2 = r + 9 by omega, fp _ _ (by omega) (by omega)]; exact hc1
  · rw [show r + 7 + 4 = r + 11 by omega, h_l_setR, (ek _ (by omega)).2, al]
    show (G.2.2.length : Int) ≤ (l : Int)
    omega
  · rw [show r + 7 + 4 = r + 11 by omega, show r + 7 + 5 = r + 12 by omega, fp _ _ (by omega) (by omega), fp _ _ (by omega) (by omega)]
    exact hc2 k hk
  · rw [fp _ _ (by omega) (by omega)]; exact d3
  · obtain ⟨cm, hcm⟩ : ∃ cm, G.2.1[i]? = some cm := ⟨_, List.getElem?_eq_getElem hi⟩
    obtain ⟨a', t, a1, ⟨a2, a3⟩, -⟩ := yc i cm hcm
    rw [show r + 7 + 1 = r + 8 by omega, sR_na (by omega), eR _ _ (by omega), a1] at ha
    have := Option.some.inj ha
    omega
  · unfold o_l
    rw [if_neg (by omega), if_neg (by omega)]
  · unfold o_l
    rw [if_neg (by omega), if_neg (by omega)]
  · rw [b1]
    exact CW_c2 W (by rw [h_n_setR]; omega) (by rw [h_n_setR]; omega) (fun x hx => by rw [h_k_setR, h_l_setR]; exact ⟨rfl, rfl⟩) (fun x y hx hxy => by rw [h_R_setR, if_neg (by omega)])
  · rw [b1]
    exact (Z.2.1 d hd).1
  · rw [b1]
    exact Z.2.2.2.2.2.2.2.2.1
  · rw [sR_na (by omega)]
    exact up
  · rw [b1]
    exact Z
  · rw [hs] at hv
    obtain ⟨e1, e2, e3⟩ := c4 i hi v hv
    have vn := CW_un e2.2.1
    exact ⟨by omega, KO v e2, fun j hj e => e3 j hj (by rw [hs] at e; exact e)⟩
set_option maxHeartbeats 8000000 in
/-- load -/
theorem l_107 {L : Nat} {xs : Nat → Int32} {d : Nat} {h : m_H} {w : Int64} {F : m_M} {Q : Option Value ⊕ Nat → m_H → Prop} {ow : Nat → Nat} {u p : Nat} {A : q_A} {B : Int} (s9 : m_n h ≤ 898000) (ok : q_ok B A) (B9 : B ≤ 1014000000) (X : q_CX ow h F u p A) (hb8 : ∀ k, k < aF A → 0 ≤ aB A k ∧ aB A k ≤ 255) {x : Int} (xa : -2147483648 ≤ x) (xb : x ≤ 2147483647) (hE : ¬ (0 ≤ x ∧ x ≤ (aF A : Int)) → Q (.inr 1) (m_hS (m_bump h) (w, F))) (hB' : 0 ≤ x → x ≤ (aF A : Int) → ∀ (ow' : Nat → Nat) (h' : m_H) (F' : m_M) (Y : tx_G × tx_St), tx_tx (aB A, x.toNat) Y → ¬ Y.2.1 = 0 → q_CX ow' h' F' u p (a_er A (Y.2.2 : Int)) → q_sT h h' F F' 150 9300 → Q (.inl (some (.int (Int32.ofInt (-10 - Y.2.1))))) (m_hS h' (w, F'))) (hG : 0 ≤ x → x ≤ (aF A : Int) → ∀ (ow' : Nat → Nat) (h' : m_H) (F' : m_M) (u' p' : Nat) (Y : tx_G × tx_St), tx_tx (aB A, x.toNat) Y → Y.2.1 = 0 → Y.1.2.2.length ≤ 900 → q_CX ow' h' F' u' p' (a_ld A Y.1) → q_sT h h' F F' 150 9300 → Q (.inl (some (.int (Int32.ofInt (Y.1.2.1.length : Int))))) (m_hS h' (w, F'))) : m_W (p_P L xs) (d + 52) 107 k_107_0 [some (.ref 0), some (.int (Int32.ofInt x)), none] [] (m_hS h (w, F)) Q := by
  obtain ⟨C, ⟨⟨nx1, nx2⟩, hn2, hhi⟩, ⟨hk6, hke⟩, ⟨t1, t2, t3⟩⟩ := id X
  obtain ⟨gd, ⟨hI, hB, hC, hZ⟩, ⟨n10, hH⟩, hK, f9⟩ := id ok
  obtain ⟨⟨⟨⟨s1, s2⟩, k0, r00, k1, l1, r04, k133, r133, k134, l134⟩, st0, r03⟩, KQ0, ⟨K0, up, Z0⟩, c4⟩ := id C
  have hX : m_X = 1000000000 := rfl
  have ku := CW_uk K0.2.1
  have kp := PW_pk KQ0.2.1
  have un := CW_un K0.2.1
  have bn := CW_bn K0.2.1
  have pn := PW_pn KQ0.2.1
  have u1 := K0.1.1
  have p1 := KQ0.1.1
  have hb := bo_or u
  have hn := I_n hI
  obtain ⟨zn1, zn2, zn3⟩ := Z0.1
  by_cases c : 0 ≤ x ∧ x ≤ (aF A : Int)
  · obtain ⟨x1, x2⟩ := c
    have hB' := hB' x1 x2
    have hG := hG x1 x2
    obtain ⟨l, rfl⟩ : ∃ l : Nat, x = (l : Int) := ⟨x.toNat, by omega⟩
    rw [Int.toNat_natCast] at hB' hG
    have xe1 : ¬ (l : Int) < 0 := by omega
    have xe2 : ¬ F 0 1 < (l : Int) := by omega
    rw [k_107_0]
    simp (disch := first | omega | (simp (disch := first | omega | (simp only [h_n_setR, h_n_mk, hs_n]; first | done | omega)) only [i_lt0, i_tn, i_nn, m_cat_n, m_cat_i, m_cat_r, m_cat_z, m_cat_rv, m_cat_l, m_o_n, m_o_i, m_o_r, m_o_z, m_o_rv, m_o_f, hs_n, hs_k, hs_l, h_n_setR, h_n_mk, h_k_setR, h_l_setR, hk_old, hk_new, hl_old, hl_new, Nat.reduceLeDiff, not_false_eq_true, or_true, true_or, or_false, false_or, k0, r00, k1, l1, r04, k133, r133, k134, l134, r03, ku, up, kp]; first | done | omega) | exact Or.inl rfl | exact Or.inr rfl) only [k_107_0, w_iload_1, w_if_lt, w_aload_0, w_aloadz_0, w_aloadv_0, gf_705, m_rv_s, m_rv_n, w_icmp_le, tg_107_12, tg_107_22, tg_107_77, m_C_inl, Option.toList_some, Option.toList_none, List.cons_append, List.nil_append, w_icmp_eq, w_if_eq, hs_n, hs_k, hs_l, hs_R, hs_I, hs_L, hs_setI, hs_setL, hs_cpy, hs_setR, hs_mk, k0, r00, k1, l1, r04, k133, r133, k134, l134, r03, ku, up, kp, up_eq, up_na, up_nk, zr_eq, zr_na, sR_eq, sR_na, sR_nk, hR_old, hR_new, h_n_setR, h_n_mk, i_add, i_sub, i_mul, i_tn, i_nat, Int.reduceToNat, Int.reduceAdd, Int.reduceSub, Int.reduceMul, Int.reduceNeg, l_32, l_nat, l_c_lt, l_c_gt, l_c_eq, i_lt, i_eq, i_lt0, i_0lt, i_eq0, i_eq1, Int.reduceLT, Int.reduceEq, Int.reduceLE, Int.reduceNe, not_true_eq_false, not_false_eq_true, Nat.lt_irrefl, Int.lt_irrefl, eq_self, eq_self, Nat.reduceAdd, Nat.reduceMul, Nat.reduceSub, Nat.reduceDiv, Nat.reduceMod, Nat.reduceEqDiff, Nat.reduceLeDiff, Nat.reduceLT, Nat.zero_add, Nat.add_zero, Nat.zero_le, and_false, and_true, and_self, false_and, true_and, or_false, or_true, if_true, if_false, ite_true, ite_false, ↓reduceIte, Int.reduceToNat, Int.reduceAdd, Int.reduceSub, Int.reduceMul, Int.reduceNeg, xe1, xe2]
    rw [k_107_22]
    simp (disch := first | omega | (simp (disch := first | omega | (simp only [h_n_setR, h_n_mk, hs_n]; first | done | omega)) only [i_lt0, i_tn, i_nn, m_cat_n, m_cat_i, m_cat_r, m_cat_z, m_cat_rv, m_cat_l, m_o_n, m_o_i, m_o_r, m_o_z, m_o_rv, m_o_f, hs_n, hs_k, hs_l, h_n_setR, h_n_mk, h_k_setR, h_l_setR, hk_old, hk_new, hl_old, hl_new, Nat.reduceLeDiff, not_false_eq_true, or_true, true_or, or_false, false_or, k0, r00, k1, l1, r04, k133, r133, k134, l134, r03, ku, up, kp]; first | done | omega) | exact Or.inl rfl | exact Or.inr rfl) only [k_107_22, w_new, nf_6, w_dup_i, w_dup_r, w_dup_z, w_dup_v, w_aload_0, w_aloadz_0, w_aloadv_0, gf_704, m_rv_s, m_rv_n, w_iload_1, w_iconst, m_cat_n, m_cat_i, m_cat_r, m_cat_z, m_cat_rv, m_cat_l, Nat.zero_le, Nat.reduceLeDiff, Nat.reduceAdd, m_o_i, m_o_r, m_o_z, m_o_rv, m_C_inl, Option.toList_some, Option.toList_none, List.cons_append, List.nil_append, w_astore_2, w_astorez_2, w_astorev_2, m_o_n, m_o_f, w_aload_2, w_aloadz_2, w_aloadv_2, pf_705, gf_384, gf_522, pf_706, gf_521, w_if_eq, w_isub, w_iret, tg_107_12, tg_107_22, tg_107_77, w_icmp_eq, hs_n, hs_k, hs_l, hs_R, hs_I, hs_L, hs_setI, hs_setL, hs_cpy, hs_setR, hs_mk, k0, r00, k1, l1, r04, k133, r133, k134, l134, r03, ku, up, kp, up_eq, up_na, up_nk, zr_eq, zr_na, sR_eq, sR_na, sR_nk, hR_old, hR_new, h_n_setR, h_n_mk, i_add, i_sub, i_mul, i_tn, i_nat, Int.reduceToNat, Int.reduceAdd, Int.reduceSub, Int.reduceMul, Int.reduceNeg, l_32, l_nat, l_c_lt, l_c_gt, l_c_eq, i_lt, i_eq, i_lt0, i_0lt, i_eq0, i_eq1, Int.reduceLT, Int.reduceEq, Int.reduceLE, Int.reduceNe, not_true_eq_false, not_false_eq_true, Nat.lt_irrefl, Int.lt_irrefl, eq_self, eq_self, Nat.reduceAdd, Nat.reduceMul, Nat.reduceSub, Nat.reduceDiv, Nat.reduceMod, Nat.reduceEqDiff, Nat.reduceLeDiff, Nat.reduceLT, Nat.zero_add, Nat.add_zero, Nat.zero_le, and_false, and_true, and_self, false_and, true_and, or_false, or_true, if_true, if_false, ite_true, ite_false, ↓reduceIte, Int.reduceToNat, Int.reduceAdd, Int.reduceSub, Int.reduceMul, Int.reduceNeg]
    simp (disch := first | omega | (simp (disch := first | omega | (simp only [h_n_setR, h_n_mk, hs_n]; first | done | omega)) only [i_lt0, i_tn, i_nn, m_cat_n, m_cat_i, m_cat_r, m_cat_z, m_cat_rv, m_cat_l, m_o_n, m_o_i, m_o_r, m_o_z, m_o_rv, m_o_f, hs_n, hs_k, hs_l, h_n_setR, h_n_mk, h_k_setR, h_l_setR, hk_old, hk_new, hl_old, hl_new, Nat.reduceLeDiff, not_false_eq_true, or_true, true_or, or_false, false_or, k0, r00, k1, l1, r04, k133, r133, k134, l134, r03, ku, up, kp]; first | done | omega) | exact Or.inl rfl | exact Or.inr rfl) only [cl_31, m_cat_n, m_cat_i, m_cat_r, m_cat_z, m_cat_rv, m_cat_l, Nat.zero_le, Nat.reduceLeDiff, Nat.reduceAdd, m_o_i, m_o_r, m_o_z, m_o_rv, hs_n, hs_k, h_n_setR, h_n_mk]
    refine n_31 (r := m_n h) (l := l) (as := 0) (Or.inl rfl) (by omega) (by rw [h_n_mk]) (hk_new rfl) (by omega) (by rw [hk_old (by omega)]; exact k1) (by rw [hl_old (by omega)]; exact l1) (by rw [h_n_mk]; omega) (fun h2 F2 S2 B2 p2 i2 c92 w6 ⟨ra, r5, r6⟩ KD z2 b2 c2' => ?_)
    have kr2 := RS_k S2
    have n2' := RS_n S2
    simp (disch := first | omega | (simp (disch := first | omega | (simp only [h_n_setR, h_n_mk, hs_n]; first | done | omega)) only [i_lt0, i_tn, i_nn, m_cat_n, m_cat_i, m_cat_r, m_cat_z, m_cat_rv, m_cat_l, m_o_n, m_o_i, m_o_r, m_o_z, m_o_rv, m_o_f, hs_n, hs_k, hs_l, h_n_setR, h_n_mk, h_k_setR, h_l_setR, hk_old, hk_new, hl_old, hl_new, Nat.reduceLeDiff, not_false_eq_true, or_true, true_or, or_false, false_or, kr2]; first | done | omega) | exact Or.inl rfl | exact Or.inr rfl) only [k_107_22, w_new, nf_6, w_dup_i, w_dup_r, w_dup_z, w_dup_v, w_aload_0, w_aloadz_0, w_aloadv_0, gf_704, m_rv_s, m_rv_n, w_iload_1, w_iconst, m_cat_n, m_cat_i, m_cat_r, m_cat_z, m_cat_rv, m_cat_l, Nat.zero_le, Nat.reduceLeDiff, Nat.reduceAdd, m_o_i, m_o_r, m_o_z, m_o_rv, m_C_inl, Option.toList_some, Option.toList_none, List.cons_append, List.nil_append, w_astore_2, w_astorez_2, w_astorev_2, m_o_n, m_o_f, w_aload_2, w_aloadz_2, w_aloadv_2, pf_705, gf_384, gf_522, pf_706, gf_521, w_if_eq, w_isub, w_iret, tg_107_12, tg_107_22, tg_107_77, w_icmp_eq, hs_n, hs_k, hs_l, hs_R, hs_I, hs_L, hs_setI, hs_setL, hs_cpy, hs_setR, hs_mk, kr2, up_eq, up_na, up_nk, zr_eq, zr_na, sR_eq, sR_na, sR_nk, hR_old, hR_new, h_n_setR, h_n_mk, i_add, i_sub, i_mul, i_tn, i_nat, Int.reduceToNat, Int.reduceAdd, Int.reduceSub, Int.reduceMul, Int.reduceNeg, l_32, l_nat, l_c_lt, l_c_gt, l_c_eq, i_lt, i_eq, i_lt0, i_0lt, i_eq0, i_eq1, Int.reduceLT, Int.reduceEq, Int.reduceLE, Int.reduceNe, not_true_eq_false, not_false_eq_true, Nat.lt_irrefl, Int.lt_irrefl, eq_self, eq_self, Nat.reduceAdd, Nat.reduceMul, Nat.reduceSub, Nat.reduceDiv, Nat.reduceMod, Nat.reduceEqDiff, Nat.reduceLeDiff, Nat.reduceLT, Nat.zero_add, Nat.add_zero, Nat.zero_le, and_false, and_true, and_self, false_and, true_and, or_false, or_true, if_true, if_false, ite_true, ite_false, ↓reduceIte, Int.reduceToNat, Int.reduceAdd, Int.reduceSub, Int.reduceMul, Int.reduceNeg]
    simp (disch := first | omega | (simp (disch := first | omega | (simp only [h_n_setR, h_n_mk, hs_n]; first | done | omega)) only [i_lt0, i_tn, i_nn, m_cat_n, m_cat_i, m_cat_r, m_cat_z, m_cat_rv, m_cat_l, m_o_n, m_o_i, m_o_r, m_o_z, m_o_rv, m_o_f, hs_n, hs_k, hs_l, h_n_setR, h_n_mk, h_k_setR, h_l_setR, hk_old, hk_new, hl_old, hl_new, Nat.reduceLeDiff, not_false_eq_true, or_true, true_or, or_false, false_or, kr2]; first | done | omega) | exact Or.inl rfl | exact Or.inr rfl) only [cl_32, m_cat_n, m_cat_i, m_cat_r, m_cat_z, m_cat_rv, m_cat_l, Nat.zero_le, Nat.reduceLeDiff, Nat.reduceAdd, m_o_i, m_o_r, m_o_z, m_o_rv, hs_n, hs_k, h_n_setR, h_n_mk]
    rw [h_n_mk, h_c_mk, h_s_mk] at z2
    refine x_32 S2 B2 (b := aB A) (fun k hk => ?_) (fun k hk => hb8 k (by omega)) i2.1 i2.2.1 i2.2.2.1 i2.2.2.2 c92 w6 r5 (by omega) ra ⟨KD, p2, Nat.zero_le _, fun i cm hc => absurd hc (by simp)⟩ (fun h3 F3 Y hY T3 S3 YY KY => ?_)
    · rw [c2' 1 k (by omega), zr_na (by omega)]
      exact t2 k (by omega)
    obtain ⟨⟨y1, y2, y3⟩, y8, b3, c3⟩ := T3
    have B3 := YY.1
    obtain ⟨zg, ze⟩ := YY.2.2.1
    have b7 := B3.2.2.2.2.2.2
    have sn := RS_n S3
    have kl : ∀ x, x < m_n h → m_k h3 x = m_k h x ∧ m_l h3 x = m_l h x ∧ ∀ y, m_R h3 x y = m_R h x y := fun x hx => ⟨by rw [(b3 x hx).1, (b2 x hx).1, hk_old (by omega)], by rw [(b3 x hx).2.1, (b2 x hx).2.1, hl_old (by omega)], fun y => by rw [(b3 x hx).2.2 y, (b2 x hx).2.2 y, hR_old (by omega)]⟩
    have fl : ∀ x y, x < m_n h → F3 x y = F x y := fun x y hx => by rw [c3 x y hx, c2' x y hx, zr_na (by omega)]
    have kr3 := RS_k S3
    have rr0 := RS_r0 S3
    have rr2 := RS_r2 S3
    have rtk := RS_tk S3
    have rpk := (RS_p S3).1
    have k03 : m_k h3 0 = 11 := by rw [(kl 0 (by omega)).1]; exact k0
    by_cases ce : Y.2.1 = 0
    · have KY := KY ce
      obtain ⟨zg1, -, zg3⟩ := zg ce
      obtain ⟨HC, hcl⟩ := YY.2.2.2 ce
      have hcl : Y.1.2.2.length ≤ l := by
        have a := HC.1
        have b := B3.2.2.2.1
        omega
      simp (disch := first | omega | (simp (disch := first | omega | (simp only [h_n_setR, h_n_mk, hs_n]; first | done | omega)) only [i_lt0, i_tn, i_nn, m_cat_n, m_cat_i, m_cat_r, m_cat_z, m_cat_rv, m_cat_l, m_o_n, m_o_i, m_o_r, m_o_z, m_o_rv, m_o_f, hs_n, hs_k, hs_l, h_n_setR, h_n_mk, h_k_setR, h_l_setR, hk_old, hk_new, hl_old, hl_new, Nat.reduceLeDiff, not_false_eq_true, or_true, true_or, or_false, false_or, kr3, rr0, rr2, rtk, k03]; first | done | omega) | exact Or.inl rfl | exact Or.inr rfl) only [k_107_22, w_new, nf_6, w_dup_i, w_dup_r, w_dup_z, w_dup_v, w_aload_0, w_aloadz_0, w_aloadv_0, gf_704, m_rv_s, m_rv_n, w_iload_1, w_iconst, m_cat_n, m_cat_i, m_cat_r, m_cat_z, m_cat_rv, m_cat_l, Nat.zero_le, Nat.reduceLeDiff, Nat.reduceAdd, m_o_i, m_o_r, m_o_z, m_o_rv, m_C_inl, Option.toList_some, Option.toList_none, List.cons_append, List.nil_append, w_astore_2, w_astorez_2, w_astorev_2, m_o_n, m_o_f, w_aload_2, w_aloadz_2, w_aloadv_2, pf_705, gf_384, gf_522, pf_706, gf_521, w_if_eq, w_isub, w_iret, tg_107_12, tg_107_22, tg_107_77, w_icmp_eq, hs_n, hs_k, hs_l, hs_R, hs_I, hs_L, hs_setI, hs_setL, hs_cpy, hs_setR, hs_mk, kr3, rr0, rr2, rtk, k03, up_eq, up_na, up_nk, zr_eq, zr_na, sR_eq, sR_na, sR_nk, hR_old, hR_new, h_n_setR, h_n_mk, i_add, i_sub, i_mul, i_tn, i_nat, Int.reduceToNat, Int.reduceAdd, Int.reduceSub, Int.reduceMul, Int.reduceNeg, l_32, l_nat, l_c_lt, l_c_gt, l_c_eq, i_lt, i_eq, i_lt0, i_0lt, i_eq0, i_eq1, Int.reduceLT, Int.reduceEq, Int.reduceLE, Int.reduceNe, not_true_eq_false, not_false_eq_true, Nat.lt_irrefl, Int.lt_irrefl, eq_self, eq_self, Nat.reduceAdd, Nat.reduceMul, Nat.reduceSub, Nat.reduceDiv, Nat.reduceMod, Nat.reduceEqDiff, Nat.reduceLeDiff, Nat.reduceLT, Nat.zero_add, Nat.add_zero, Nat.zero_le, and_false, and_true, and_self, false_and, true_and, or_false, or_true, if_true, if_false, ite_true, ite_false, ↓reduceIte, Int.reduceToNat, Int.reduceAdd, Int.reduceSub, Int.reduceMul, Int.reduceNeg, zg1, zg3]
      rw [k_107_77]
      simp (disch := first | omega | (simp (disch := first | omega | (simp only [h_n_setR, h_n_mk, hs_n]; first | done | omega)) only [i_lt0, i_tn, i_nn, m_cat_n, m_cat_i, m_cat_r, m_cat_z, m_cat_rv, m_cat_l, m_o_n, m_o_i, m_o_r, m_o_z, m_o_rv, m_o_f, hs_n, hs_k, hs_l, h_n_setR, h_n_mk, h_k_setR, h_l_setR, hk_old, hk_new, hl_old, hl_new, Nat.reduceLeDiff, not_false_eq_true, or_true, true_or, or_false, false_or, kr3, rr0, rr2, rtk, k03]; first | done | omega) | exact Or.inl rfl | exact Or.inr rfl) only [k_107_77, w_aload_0, w_aloadz_0, w_aloadv_0, w_new, nf_10, w_dup_i, w_dup_r, w_dup_z, w_dup_v, w_aload_2, w_aloadz_2, w_aloadv_2, gf_386, m_rv_s, m_rv_n, m_cat_n, m_cat_i, m_cat_r, m_cat_z, m_cat_rv, m_cat_l, Nat.zero_le, Nat.reduceLeDiff, Nat.reduceAdd, m_o_i, m_o_r, m_o_z, m_o_rv, m_C_inl, Option.toList_some, Option.toList_none, List.cons_append, List.nil_append, pf_707, pfz_707, pfv_707, gf_708, w_iconst, pf_710, gf_321, w_iret, tg_107_12, tg_107_22, tg_107_77, w_icmp_eq, w_if_eq, hs_n, hs_k, hs_l, hs_R, hs_I, hs_L, hs_setI, hs_setL, hs_cpy, hs_setR, hs_mk, kr3, rr0, rr2, rtk, k03, up_eq, up_na, up_nk, zr_eq, zr_na, sR_eq, sR_na, sR_nk, hR_old, hR_new, h_n_setR, h_n_mk, i_add, i_sub, i_mul, i_tn, i_nat, Int.reduceToNat, Int.reduceAdd, Int.reduceSub, Int.reduceMul, Int.reduceNeg, l_32, l_nat, l_c_lt, l_c_gt, l_c_eq, i_lt, i_eq, i_lt0, i_0lt, i_eq0, i_eq1, Int.reduceLT, Int.reduceEq, Int.reduceLE, Int.reduceNe, not_true_eq_false, not_false_eq_true, Nat.lt_irrefl, Int.lt_irrefl, eq_self, eq_self, Nat.reduceAdd, Nat.reduceMul, Nat.reduceSub, Nat.reduceDiv, Nat.reduceMod, Nat.reduceEqDiff, Nat.reduceLeDiff, Nat.reduceLT, Nat.zero_add, Nat.add_zero, Nat.zero_le, and_false, and_true, and_self, false_and, true_and, or_false, or_true, if_true, if_false, ite_true, ite_false, ↓reduceIte, Int.reduceToNat, Int.reduceAdd, Int.reduceSub, Int.reduceMul, Int.reduceNeg]
      simp (disch := first | omega | (simp (disch := first | omega | (simp only [h_n_setR, h_n_mk, hs_n]; first | done | omega)) only [i_lt0, i_tn, i_nn, m_cat_n, m_cat_i, m_cat_r, m_cat_z, m_cat_rv, m_cat_l, m_o_n, m_o_i, m_o_r, m_o_z, m_o_rv, m_o_f, hs_n, hs_k, hs_l, h_n_setR, h_n_mk, h_k_setR, h_l_setR, hk_old, hk_new, hl_old, hl_new, Nat.reduceLeDiff, not_false_eq_true, or_true, true_or, or_false, false_or, kr3, rr0, rr2, rtk, k03]; first | done | omega) | exact Or.inl rfl | exact Or.inr rfl) only [cl_77, m_cat_n, m_cat_i, m_cat_r, m_cat_z, m_cat_rv, m_cat_l, Nat.zero_le, Nat.reduceLeDiff, Nat.reduceAdd, m_o_i, m_o_r, m_o_z, m_o_rv, hs_n, hs_k, h_n_setR, h_n_mk]
      refine n_77 (u := m_n h3) (p := m_n h + 7) (by omega) (by rw [h_n_mk]; omega) (hk_new rfl) (by rw [h_n_mk]; omega) (by rw [hk_old (by omega)]; exact rpk) (by rw [h_n_mk]; omega) (by rw [h_n_mk]; omega) (fun h5 F5 W5 up5 G5 H5 => ?_)
      rw [h_n_mk] at W5 H5
      have G6 := G5
      obtain ⟨q1, q2, q3, q4, q5⟩ := G6
      rw [h_n_mk] at q1 q4 q5
      rw [h_c_mk] at q2
      rw [h_s_mk] at q3
      have ek5 : ∀ x, x < m_n h3 → m_k h5 x = m_k h3 x ∧ m_l h5 x = m_l h3 x := fun x hx => by rw [(q4 x (by omega)).1, (q4 x (by omega)).2, hk_old (by omega), hl_old (by omega)]; exact ⟨rfl, rfl⟩
      have eR5 : ∀ x y, x < m_n h3 → m_R h5 x y = m_R h3 x y := fun x y hx => by rw [q5 x y (by omega) (by omega), hR_old (by omega)]
      have k05 : m_k h5 0 = 11 := by rw [(ek5 0 (by omega)).1]; exact k03
      have k135 : m_k h5 133 = 3 := by rw [(ek5 133 (by omega)).1, (kl 133 (by omega)).1]; exact k133
      have r045 : m_R (m_setR h5 0 3 (some (m_n h3))) 0 4 = some 133 := by rw [sR_nk (by omega), eR5 0 4 (by omega), (kl 0 (by omega)).2.2 4]; exact r04
      have kr5 : m_k h5 (m_n h) = 6 := by rw [(ek5 _ (by omega)).1]; exact kr3
      have rr25 : m_R (m_setR h5 0 3 (some (m_n h3))) (m_n h) 2 = some (m_n h + 7) := by rw [sR_na (by omega), eR5 _ _ (by omega)]; exact rr2
      have kp5 : m_k h5 (m_n h + 7) = 5 := by rw [(ek5 _ (by omega)).1]; exact rpk
      have f5 := H5.1
      have h71 : F5 (m_n h + 7) 1 = (Y.1.2.1.length : Int) := by
        rw [f5 _ _ (by omega) (by omega), zr_na (by omega)]
        simp (disch := omega) only [up_na]
        exact KY.2.1
      simp (disch := first | omega | (simp (disch := first | omega | (simp only [h_n_setR, h_n_mk, hs_n]; first | done | omega)) only [i_lt0, i_tn, i_nn, m_cat_n, m_cat_i, m_cat_r, m_cat_z, m_cat_rv, m_cat_l, m_o_n, m_o_i, m_o_r, m_o_z, m_o_rv, m_o_f, hs_n, hs_k, hs_l, h_n_setR, h_n_mk, h_k_setR, h_l_setR, hk_old, hk_new, hl_old, hl_new, Nat.reduceLeDiff, not_false_eq_true, or_true, true_or, or_false, false_or, k05, k135, r045, kr5, rr25, kp5, h_k_setR, h_l_setR]; first | done | omega) | exact Or.inl rfl | exact Or.inr rfl) only [k_107_77, w_aload_0, w_aloadz_0, w_aloadv_0, w_new, nf_10, w_dup_i, w_dup_r, w_dup_z, w_dup_v, w_aload_2, w_aloadz_2, w_aloadv_2, gf_386, m_rv_s, m_rv_n, m_cat_n, m_cat_i, m_cat_r, m_cat_z, m_cat_rv, m_cat_l, Nat.zero_le, Nat.reduceLeDiff, Nat.reduceAdd, m_o_i, m_o_r, m_o_z, m_o_rv, m_C_inl, Option.toList_some, Option.toList_none, List.cons_append, List.nil_append, pf_707, pfz_707, pfv_707, gf_708, cl_20, w_iconst, pf_710, gf_321, w_iret, tg_107_12, tg_107_22, tg_107_77, k_20_0, pf_194, w_vret, w_icmp_eq, w_if_eq, hs_n, hs_k, hs_l, hs_R, hs_I, hs_L, hs_setI, hs_setL, hs_cpy, hs_setR, hs_mk, k05, k135, r045, kr5, rr25, kp5, h_k_setR, h_l_setR, up_eq, up_na, up_nk, zr_eq, zr_na, sR_eq, sR_na, sR_nk, hR_old, hR_new, h_n_setR, h_n_mk, i_add, i_sub, i_mul, i_tn, i_nat, Int.reduceToNat, Int.reduceAdd, Int.reduceSub, Int.reduceMul, Int.reduceNeg, l_32, l_nat, l_c_lt, l_c_gt, l_c_eq, i_lt, i_eq, i_lt0, i_0lt, i_eq0, i_eq1, Int.reduceLT, Int.reduceEq, Int.reduceLE, Int.reduceNe, not_true_eq_false, not_false_eq_true, Nat.lt_irrefl, Int.lt_irrefl, eq_self, eq_self, Nat.reduceAdd, Nat.reduceMul, Nat.reduceSub, Nat.reduceDiv, Nat.reduceMod, Nat.reduceEqDiff, Nat.reduceLeDiff, Nat.reduceLT, Nat.zero_add, Nat.add_zero, Nat.zero_le, and_false, and_true, and_self, false_and, true_and, or_false, or_true, if_true, if_false, ite_true, ite_false, ↓reduceIte, Int.reduceToNat, Int.reduceAdd, Int.reduceSub, Int.reduceMul, Int.reduceNeg, h71]
      have ff : ∀ x y, x < m_n h3 → ¬ x = 0 → F5 x y = F3 x y := fun x y hx h1 => by rw [f5 x y (by omega) (by omega), zr_na (by omega)]; simp (disch := omega) only [up_na]
      have f01 : F5 0 1 = 0 := by rw [f5 _ _ (by omega) (by omega), zr_na (by omega)]; simp (disch := omega) only [up_eq, up_na, up_nk]
      have f02 : F5 0 2 = -1 := by rw [f5 _ _ (by omega) (by omega), zr_na (by omega)]; simp (disch := omega) only [up_eq, up_na, up_nk]
      have Zn : q_zz (m_n h3) (m_n h3 + 1) Y.1 (-1) F5 sp_r0 := Z_nw H5 (by rw [zr_na (by omega)]; simp (disch := omega) only [up_na]; exact KY.1.2.1)
      refine hG _ _ _ _ _ Y hY ce (by omega) (CX_ld (n := m_n h3) X rfl S3 KY HC (by omega) (g3_tx hY) kl fl rfl (by omega) W5 up5 G5 (Z_out (r0_I (gd_tx hY ce (by omega))) Zn (fun x y hx => ?_)) (fun x y hx h1 h2 => ?_) ?_ ?_ ?_ ?_ ?_) ⟨?_, ?_, ?_, ?_, fun x h1 h2 => ⟨?_, ?_, fun y => ?_⟩, fun x y h1 h2 => ?_⟩
      · simp (disch := omega) only [up_na]
      · simp (disch := omega) only [up_na]
        exact ff x y hx h1
      · simp (disch := omega) only [up_eq, up_na, up_nk, f01]
      · simp (disch := omega) only [up_eq, up_na, up_nk, f02]
      · simp (disch := omega) only [up_eq, up_na, up_nk]
      · simp (disch := omega) only [up_eq, up_na, up_nk]
        rw [ff _ _ (by omega) (by omega)]
        exact fl _ _ (by omega)
      · simp (disch := omega) only [up_eq, up_na, up_nk]
      · rw [h_n_setR]; omega
      · rw [h_n_setR]; omega
      · rw [h_c_setR]; omega
      · rw [h_s_setR]; omega
      · rw [h_k_setR, (ek5 x (by omega)).1]
        exact (kl x (by omega)).1
      · rw [h_l_setR, (ek5 x (by omega)).2]
        exact (kl x (by omega)).2.1
      · rw [sR_na (by omega), eR5 x y (by omega)]
        exact (kl x (by omega)).2.2 y
      · simp (disch := omega) only [up_na]
        rw [ff x y (by omega) (by omega)]
        exact fl x y (by omega)
    · obtain ⟨ze1, ze2, -, ze4, ze5⟩ := ze ce
      simp (disch := first | omega | (simp (disch := first | omega | (simp only [h_n_setR, h_n_mk, hs_n]; first | done | omega)) only [i_lt0, i_tn, i_nn, m_cat_n, m_cat_i, m_cat_r, m_cat_z, m_cat_rv, m_cat_l, m_o_n, m_o_i, m_o_r, m_o_z, m_o_rv, m_o_f, hs_n, hs_k, hs_l, h_n_setR, h_n_mk, h_k_setR, h_l_setR, hk_old, hk_new, hl_old, hl_new, Nat.reduceLeDiff, not_false_eq_true, or_true, true_or, or_false, false_or, kr3, rr0, rr2, rtk, k03]; first | done | omega) | exact Or.inl rfl | exact Or.inr rfl) only [k_107_22, w_new, nf_6, w_dup_i, w_dup_r, w_dup_z, w_dup_v, w_aload_0, w_aloadz_0, w_aloadv_0, gf_704, m_rv_s, m_rv_n, w_iload_1, w_iconst, m_cat_n, m_cat_i, m_cat_r, m_cat_z, m_cat_rv, m_cat_l, Nat.zero_le, Nat.reduceLeDiff, Nat.reduceAdd, m_o_i, m_o_r, m_o_z, m_o_rv, m_C_inl, Option.toList_some, Option.toList_none, List.cons_append, List.nil_append, w_astore_2, w_astorez_2, w_astorev_2, m_o_n, m_o_f, w_aload_2, w_aloadz_2, w_aloadv_2, pf_705, gf_384, gf_522, pf_706, gf_521, w_if_eq, w_isub, w_iret, tg_107_12, tg_107_22, tg_107_77, w_icmp_eq, hs_n, hs_k, hs_l, hs_R, hs_I, hs_L, hs_setI, hs_setL, hs_cpy, hs_setR, hs_mk, kr3, rr0, rr2, rtk, k03, up_eq, up_na, up_nk, zr_eq, zr_na, sR_eq, sR_na, sR_nk, hR_old, hR_new, h_n_setR, h_n_mk, i_add, i_sub, i_mul, i_tn, i_nat, Int.reduceToNat, Int.reduceAdd, Int.reduceSub, Int.reduceMul, Int.reduceNeg, l_32, l_nat, l_c_lt, l_c_gt, l_c_eq, i_lt, i_eq, i_lt0, i_0lt, i_eq0, i_eq1, Int.reduceLT, Int.reduceEq, Int.reduceLE, Int.reduceNe, not_true_eq_false, not_false_eq_true, Nat.lt_irrefl, Int.lt_irrefl, eq_self, eq_self, Nat.reduceAdd, Nat.reduceMul, Nat.reduceSub, Nat.reduceDiv, Nat.reduceMod, Nat.reduceEqDiff, Nat.reduceLeDiff, Nat.reduceLT, Nat.zero_add, Nat.add_zero, Nat.zero_le, and_false, and_true, and_self, false_and, true_and, or_false, or_true, if_true, if_false, ite_true, ite_false, ↓reduceIte, Int.reduceToNat, Int.reduceAdd, Int.reduceSub, Int.reduceMul, Int.reduceNeg, ze1, ze2, ce]
      have XE := CX_ext (F' := F3) ok X (by omega) (by omega) (fun x hx => ⟨(kl x hx).1, (kl x hx).2.1⟩) (fun x y hx => (kl x hx).2.2 y) fl
      refine hB' _ _ _ Y hY ce (CX_tx (F' := m_up (m_up F3 0 1 0) 0 2 (Y.2.2 : Int)) (bb := aB A) (n := 0) ok XE (fun x y h1 => by simp (disch := omega) only [up_na]) (by simp (disch := omega) only [up_eq, up_na, up_nk]) (by simp (disch := omega) only [up_eq, up_na, up_nk, Int.natCast_zero]) (fun k hk => absurd hk (Nat.not_lt_zero k)) (by simp (disch := omega) only [up_eq, up_na, up_nk])) ⟨by omega, by omega, by omega, by omega, fun x h1 h2 => kl x (by omega), fun x y h1 h2 => ?_⟩
      simp (disch := omega) only [up_na]
      exact fl x y (by omega)
  · have hE := hE c
    rw [k_107_0]
    (repeat' (first | (simp (disch := first | omega | (simp (disch := omega) only [i_lt0, i_tn, i_nn, m_cat_n, m_cat_i, m_cat_r, m_cat_z, m_cat_rv, m_cat_l, m_o_n, m_o_i, m_o_r, m_o_z, m_o_rv, m_o_f, hs_n, hs_k, hs_l, Nat.reduceLeDiff, not_false_eq_true, or_true, true_or, or_false, false_or, k0, r00, k1, l1, r04, k133, r133, k134, l134, r03, ku, up, kp]; first | done | omega) | exact Or.inl rfl | exact Or.inr rfl) only [w_iload_1, w_if_lt, w_aload_0, w_aloadz_0, w_aloadv_0, gf_705, m_rv_s, m_rv_n, w_icmp_le, tg_107_12, tg_107_22, tg_107_77, m_C_inl, Option.toList_some, Option.toList_none, List.cons_append, List.nil_append, w_icmp_eq, w_if_eq, hs_n, hs_k, hs_l, hs_R, hs_I, hs_L, hs_setI, hs_setL, hs_cpy, k0, r00, k1, l1, r04, k133, r133, k134, l134, r03, ku, up, kp, up_up, up_sw, up_sa, up_eq, up_na, up_nk, cp_na, i_add, i_sub, i_mul, i_tn, i_nat, Int.reduceToNat, Int.reduceAdd, Int.reduceSub, Int.reduceMul, Int.reduceNeg, l_32, l_nat, l_c_lt, l_c_gt, l_c_eq, i_lt, i_eq, i_lt0, i_0lt, i_eq0, i_eq1, Int.reduceLT, Int.reduceEq, Int.reduceLE, Int.reduceNe, not_true_eq_false, not_false_eq_true, Nat.lt_irrefl, Int.lt_irrefl, eq_self, eq_self, Nat.reduceAdd, Nat.reduceMul, Nat.reduceSub, Nat.reduceDiv, Nat.reduceMod, Nat.reduceEqDiff, Nat.reduceLeDiff, Nat.reduceLT, Nat.zero_add, Nat.add_zero, Nat.zero_le, and_false, and_true, and_self, false_and, true_and, or_false, or_true, if_true, if_false, ite_true, ite_false, ↓reduceIte, Int.reduceToNat, Int.reduceAdd, Int.reduceSub, Int.reduceMul, Int.reduceNeg, hs_bump, t1]) | split | (simp (disch := first | omega | (simp (disch := omega) only [i_lt0, i_tn, i_nn, m_cat_n, m_cat_i, m_cat_r, m_cat_z, m_cat_rv, m_cat_l, m_o_n, m_o_i, m_o_r, m_o_z, m_o_rv, m_o_f, hs_n, hs_k, hs_l, Nat.reduceLeDiff, not_false_eq_true, or_true, true_or, or_false, false_or, k0, r00, k1, l1, r04, k133, r133, k134, l134, r03, ku, up, kp]; first | done | omega) | exact Or.inl rfl | exact Or.inr rfl) only [k_107_12, wt_107, mc_107, m_cat_n, m_cat_i, m_cat_r, m_cat_z, m_cat_rv, Nat.zero_le, Nat.reduceLeDiff, Nat.reduceAdd, tg_107_12, tg_107_22, tg_107_77, m_C_inl, Option.toList_some, Option.toList_none, List.cons_append, List.nil_append, w_icmp_eq, w_if_eq, hs_n, hs_k, hs_l, hs_R, hs_I, hs_L, hs_setI, hs_setL, hs_cpy, k0, r00, k1, l1, r04, k133, r133, k134, l134, r03, ku, up, kp, up_up, up_sw, up_sa, up_eq, up_na, up_nk, cp_na, i_add, i_sub, i_mul, i_tn, i_nat, Int.reduceToNat, Int.reduceAdd, Int.reduceSub, Int.reduceMul, Int.reduceNeg, l_32, l_nat, l_c_lt, l_c_gt, l_c_eq, i_lt, i_eq, i_lt0, i_0lt, i_eq0, i_eq1, Int.reduceLT, Int.reduceEq, Int.reduceLE, Int.reduceNe, not_true_eq_false, not_false_eq_true, Nat.lt_irrefl, Int.lt_irrefl, eq_self, eq_self, Nat.reduceAdd, Nat.reduceMul, Nat.reduceSub, Nat.reduceDiv, Nat.reduceMod, Nat.reduceEqDiff, Nat.reduceLeDiff, Nat.reduceLT, Nat.zero_add, Nat.add_zero, Nat.zero_le, and_false, and_true, and_self, false_and, true_and, or_false, or_true, if_true, if_false, ite_true, ite_false, ↓reduceIte, Int.reduceToNat, Int.reduceAdd, Int.reduceSub, Int.reduceMul, Int.reduceNeg, hs_bump, t1])))
    all_goals first
      | (exfalso; omega)
      | exact hE
