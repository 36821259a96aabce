section MAIN4
variable {l : Launch} {P : m_P} {cl : List vw_C} {D : va_G} {cA : Nat → ClassId} {tys : List (ClassId × FieldType)} {G : List Cond} {XT : (Nat → Prop) → State → Heap → Prop} {xc : Nat → Nat} {AOL : List String × List (Nat × String)} {TL : List (String × Nat × Nat × Nat × String)} {NL : List (String × Nat × MethodName × String)} {Y : Nat → MethodName} {B : Nat → ByteArray} {TT : Nat → Option FieldType} {INI : Nat → Bool} {TGz : Nat → Nat → Prop} {NM : Nat} {HH : Nat → List (Nat × Nat × Nat × Nat)}
set_option maxHeartbeats 4000000 in
/-- THE RUNS OF THE SMALL MACHINE ARE THE MACHINE'S -/
theorem m_main (S : m_stat l P cl G AOL TL NL tys cA Y B TT INI TGz NM HH XT xc) (HF : m_fok l P cl D cA tys G XT xc) : ∀ (n d z : Nat) (is : List Instr) (ls : m_F) (st : List Value) (h : m_H) (o : Option Value ⊕ Nat) (h' : m_H), z < NM → m_ex P n d z is ls st h = some (o, h') → ∀ (p : Program) (e : Env) (R : Room) (s : State) (m : MethodId) (args : Array Value) (below : List Frame) (meth : Method) (c : Code) (A : Nat → Prop) (xa : Nat × (Nat → Nat)) (c0 s0 pc : Nat), m_env p s m args meth c R P cl D cA A tys G (Y z).cls (INI z) (m_nl P z) (B z) → m_ext s A xa XT P xc AOL TL NL → d + 8 ≤ R.frames ∧ 40 * d + 200 ≤ R.locals → meth.locks = false → meth.sig.returnType = TT z → c.exceptionTable.toList = tableOf (HH z) → c0 ≤ m_c h → s0 ≤ m_s h → m_c h' - c0 ≤ R.cells → m_s h' - s0 ≤ R.slots → m_at P cl G AOL TL NL tys cA Y B TT INI TGz NM HH z is pc → m_go p l e R s m args below meth c (vx_MQ below (m_Qc P cl D cA A xa o h') (m_XC P cl D cA A xa o h') args s (m_c h' - c0) (m_s h' - s0) A) P cl D cA A xa (m_nl P z) c0 s0 pc ls st h := by
  intro n
  induction n with
  | zero =>
    intro d z is ls st h o h' hz he
    simp [m_ex] at he
  | succ n ih =>
    intro d z is ls st h o h' hz he p e R s m args below meth c A xa c0 s0 pc E X hR hlocks hr htab h0 h1 g0 g1 hat
    obtain ⟨-, hNM, hG, -, hXT, hXU, hM⟩ := id S
    cases is with
    | nil => simp [m_ex] at he
    | cons i is =>
      obtain ⟨len, hm, hret, hrest⟩ := hat
      rw [m_ex] at he
      split at he
      · cases he
      · next q hq =>
        have mono := m_st_mono hq
        have mono2 := m_ex_mono _ _ _ _ _ _ _ _ _ he
        refine m_step1 (AT := fun pc is => m_at P cl G AOL TL NL tys cA Y B TT INI TGz NM HH z is pc) (TG := TGz z) (len := len) HF E X h0 h1 (by omega) (by omega) hq ?_ (hM z hz).2.2.2.2.2.1 hrest (fun pc' hat' => ih d z _ _ _ _ _ _ hz he p e R s m args below meth c A xa c0 s0 pc' E X hR hlocks hr htab (by omega) (by omega) g0 g1 hat')
        rcases hm with hm | hm
        · exact hm
        · exfalso
          cases i
          case invokevirtual zz =>
            simp only [m_st] at hq
            (repeat' split at hq) <;> cases hq
          case invokestatic zz =>
            obtain ⟨⟨-, hzz, -⟩, -⟩ := hm
            simp only [m_st] at hq
            rw [if_neg (by omega), if_neg (by omega), if_neg (by omega), if_neg (by omega)] at hq
            (repeat' split at hq) <;> cases hq
          case invokespecial zz =>
            obtain ⟨⟨-, hzz, -⟩, -⟩ := hm
            simp only [m_st] at hq
            rw [if_neg (by omega)] at hq
            (repeat' split at hq) <;> cases hq
          case invokedynamic zz =>
            simp only [m_st] at hq
            (repeat' split at hq) <;> cases hq
          all_goals exact hm.1
      · next q hq =>
        obtain ⟨zz, as, st'⟩ := q
        cases d with
        | zero => simp at he
        | succ d =>
          simp only at he
          split at he
          · cases he
          · next v g hg =>
            have mono1 := m_ex_mono _ _ _ _ _ _ _ _ _ hg
            have mono2 := m_ex_mono _ _ _ _ _ _ _ _ _ he
            intro H locs ad la rel hl hs
            have hA := E.2.2.2.2.2.2.1
            obtain ⟨hzz, hlen, hst, hsl, hrun⟩ := m_runs (d := d) (cells := m_c h - c0) (slots := m_s h - s0) (mc := m_c g - m_c h) (ms := m_s g - m_s h) (below := below) (Qc := m_Qc P cl D cA (va_A (m_ws P cA ad h) H.size) (m_n h, ad) (.inl v) g) (XC := m_XC P cl D cA (va_A (m_ws P cA ad h) H.size) (m_n h, ad) (.inl v) g) (free := va_A (m_ws P cA ad h) H.size) (e := e) (locs := locs) S E X hR rel hl hq hm ⟨by omega, by omega⟩
            have hin : ∀ w ∈ as, m_in (m_n h) w := fun w hw => hs w (by rw [hst]; exact List.mem_append_left _ (List.mem_reverse.mpr hw))
            have had : ∀ j, m_X ≤ j → ad j = xc j := fun j hj => (rel.2.2.2.2.2 j (Or.inr hj)).trans (X.2.2.2 j hj)
            have hC := m_contract S hzz (fun is ls st h o h' he => ih d zz is ls st h o h' hzz he) hg hsl ad H.size rel.2.2.2.1 hin had
            have hrun := hrun hC (fun _ _ _ _ hx => by obtain ⟨x, ad', ho, -⟩ := hx; cases ho)
            subst hlen
            refine m_call rel hA hl (st := st') (fun w hw => hs w (by rw [hst]; exact List.mem_append_right _ hw)) h0 h1 mono1.1 mono1.2 hrun (fun w hw => ?_) (fun x hx => by cases hx)
            cases hw
            exact ih (d + 1) z _ _ _ _ _ _ hz he p e R s m args below meth c A xa c0 s0 (pc + 3) E X hR hlocks hr htab (by omega) (by omega) g0 g1 hrest
          · next x g hg =>
            split at he
            · cases he
            · next hisp =>
              have mono1 := m_ex_mono _ _ _ _ _ _ _ _ _ hg
              have hA := E.2.2.2.2.2.2.1
              obtain ⟨-, -, -, -, -, -, -, -, k9, k10⟩ := hM z hz
              split at he
              · split at he
                · cases he
                · next hnh =>
                  cases he
                  intro H locs ad la rel hl hs
                  obtain ⟨hzz, hlen, hst, hsl, hrun⟩ := m_runs (d := d) (cells := m_c h - c0) (slots := m_s h - s0) (mc := m_c h' - m_c h) (ms := m_s h' - m_s h) (below := below) (Qc := m_Qc P cl D cA (va_A (m_ws P cA ad h) H.size) (m_n h, ad) (.inr x) h') (XC := m_XC P cl D cA (va_A (m_ws P cA ad h) H.size) (m_n h, ad) (.inr x) h') (free := va_A (m_ws P cA ad h) H.size) (e := e) (locs := locs) S E X hR rel hl hq hm ⟨by omega, by omega⟩
                  have hin : ∀ w ∈ as, m_in (m_n h) w := fun w hw => hs w (by rw [hst]; exact List.mem_append_left _ (List.mem_reverse.mpr hw))
                  have had : ∀ j, m_X ≤ j → ad j = xc j := fun j hj => (rel.2.2.2.2.2 j (Or.inr hj)).trans (X.2.2.2 j hj)
                  have hC := m_contract S hzz (fun is ls st h o h' he => ih d zz is ls st h o h' hzz he) hg hsl ad H.size rel.2.2.2.1 hin had
                  have hrun := hrun hC (fun hi => absurd hi hisp)
                  refine m_call rel hA hl (st := st') (fun w hw => hs w (by rw [hst]; exact List.mem_append_right _ hw)) h0 h1 mono1.1 mono1.2 hrun (fun w hw => by cases hw) (fun y hy H1 locs1 ad' q ce rel' hl' hce hcv hcl => ?_)
                  cases hy
                  refine vx_out (fun x hx => by rw [htab, (k9 (Bool.eq_false_iff.mpr hnh)).1] at hx; cases hx) hlocks hce hcv hcl (fun t ht ha => ?_) rel'.2.2.1.2.2 (Nat.le_refl _) (Nat.le_refl _)
                  exact ⟨x, ad', rfl, rfl, by rw [ht]; exact rel'.1, rel'.2.1, rel'.2.2.2.1, rel'.2.2.2.2.1, rel'.2.2.2.2.2, rel'.2.2.1.F ht⟩
              · next r hhd =>
                have hok : m_ok1 ls r.1 = true := by
                  by_cases w : m_ok1 ls r.1 = true
                  · exact w
                  · rw [if_neg w] at he
                    cases he
                rw [if_pos hok] at he
                have mono2 := m_ex_mono _ _ _ _ _ _ _ _ _ he
                have hhh : m_hh P z = true := by
                  cases hb : m_hh P z with
                  | true => rfl
                  | false => rw [(k9 hb).2 x] at hhd; cases hhd
                have hcov : m_cov P G Y B HH z pc i := by
                  rcases hm with (hm | hm) | hm
                  · exfalso
                    cases i
                    case invokestatic zz =>
                      obtain ⟨-, ix, hlib, -⟩ := hm
                      rcases hlib with ⟨rfl, -⟩ | ⟨rfl, -⟩ | ⟨rfl, -⟩ <;> simp only [m_st, m_nx, ↓reduceIte, Nat.reduceEqDiff] at hq <;> (repeat' split at hq) <;> cases hq
                    case invokespecial zz =>
                      obtain ⟨-, rfl, -⟩ := hm
                      simp only [m_st, m_nx, ↓reduceIte] at hq
                      (repeat' split at hq) <;> cases hq
                    case newarray t =>
                      cases t <;> simp only [m_st, m_nx] at hq <;> first | (cases hq; done) | ((repeat' split at hq) <;> (cases hq; done))
                    all_goals first
                      | exact hm.elim
                      | (simp only [m_st, m_nx] at hq; first | (cases hq; done) | ((repeat' split at hq) <;> (cases hq; done)))
                  · exfalso
                    cases i
                    case invokestatic zz =>
                      obtain ⟨rfl, -⟩ := hm
                      simp only [m_st, m_nx, ↓reduceIte, Nat.reduceEqDiff] at hq
                      (repeat' split at hq) <;> cases hq
                    all_goals first
                      | exact hm.elim
                      | (simp only [m_st, m_nx] at hq; first | (cases hq; done) | ((repeat' split at hq) <;> (cases hq; done)))
                  · exact hm.2
                obtain ⟨hx1, hrl, pre, x0, suf, c1, c2, c3, c4, c5, c6⟩ := hcov hhh x r hhd
                obtain ⟨-, -, -, -, -, ⟨hcst, hncs⟩, -⟩ := X.2.1 _ _ _ X.2.2.1
                obtain ⟨ex, eb, eml, eown, ets, -⟩ := id E
                intro H locs ad la rel hl hs
                obtain ⟨hzz, hlen, hst, hsl, hrun⟩ := m_runs (d := d) (cells := m_c h - c0) (slots := m_s h - s0) (mc := m_c g - m_c h) (ms := m_s g - m_s h) (below := below) (Qc := m_Qc P cl D cA (va_A (m_ws P cA ad h) H.size) (m_n h, ad) (.inr x) g) (XC := m_XC P cl D cA (va_A (m_ws P cA ad h) H.size) (m_n h, ad) (.inr x) g) (free := va_A (m_ws P cA ad h) H.size) (e := e) (locs := locs) S E X hR rel hl hq hm ⟨by omega, by omega⟩
                have hin : ∀ w ∈ as, m_in (m_n h) w := fun w hw => hs w (by rw [hst]; exact List.mem_append_left _ (List.mem_reverse.mpr hw))
                have had : ∀ j, m_X ≤ j → ad j = xc j := fun j hj => (rel.2.2.2.2.2 j (Or.inr hj)).trans (X.2.2.2 j hj)
                have hC := m_contract S hzz (fun is ls st h o h' he => ih d zz is ls st h o h' hzz he) hg hsl ad H.size rel.2.2.2.1 hin had
                have hrun := hrun hC (fun hi => absurd hi hisp)
                refine m_call rel hA hl (st := st') (fun w hw => hs w (by rw [hst]; exact List.mem_append_right _ hw)) h0 h1 mono1.1 mono1.2 hrun (fun w hw => by cases hw) (fun y hy H1 locs1 ad' q ce rel' hl' hce hcv hcl => ?_)
                cases hy
                have hgo := fun la' (hla : m_lR ad' (m_n g) (ls.set r.1 none) la' (m_nl P z)) => ih (d + 1) z _ _ _ _ _ _ hz he p e R s m args below meth c A xa c0 s0 r.2 E X hR hlocks hr htab (by omega) (by omega) g0 g1 (k10 x r hhd) H1 locs1 ad' la' rel' hla (fun v hv => nomatch hv)
                refine vx_catch eown pre x0 suf (htab.trans c1) (fun y hy => ?_) c3 c4 (ets _ c5) (va_Nw.use rfl (hcst x hx1 _ List.mem_cons_self)) hce hcv hcl ?_
                · rcases c2 y hy with w | ⟨rfl, w2, w3⟩
                  · exact Or.inl w
                  · exact Or.inr ⟨w2, _, ets _ w3, hncs⟩
                · have hset : ∀ la', lv_has la' (m_nl P z) ((r.1, Value.ref q) :: (m_ll ad' ls).filter (fun q => !(q.1 == r.1) && !(q.1 + 1 == r.1 && q.2.category == 2))) → m_lR ad' (m_n g) (ls.set r.1 none) la' (m_nl P z) := by
                    intro la' hla
                    exact m_lR_stN hl' hok hla
                  rcases c6 with ⟨j, j1, j2, j3⟩ | ⟨j2, j3⟩
                  · rw [j3] at hgo
                    exact lv_astore_n ex eb j2 j1 (m_lR_has hl') hrl rfl (fun la' hla => hgo la' (hset la' hla))
                  · rw [j3] at hgo
                    exact lv_astore ex eb j2 (m_lR_has hl') hrl rfl (fun la' hla => hgo la' (hset la' hla))
      · next v hq =>
        cases he
        exact m_end S E hlocks hr hq hm hret
      · next x hq =>
        cases he
        exact m_thr (d := d) S E X hR hlocks htab (fun w => ((hM z hz).2.2.2.2.2.2.2.2.1 w).1) h0 h1 g0 g1 hq hm
end MAIN4
