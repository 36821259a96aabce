/-! the world as rows of whole numbers: what a tick does (pure) -/
abbrev sp_R : Type := Nat → Int
/-- a whole number as the machine has it -/
def sp_w (x : Int) : Int := (Int32.ofInt x).toInt
theorem sp_wo {x : Int} : Int32.ofInt (sp_w x) = Int32.ofInt x := Int32.ofInt_toInt _
theorem sp_wb {x : Int} : -2147483648 ≤ sp_w x ∧ sp_w x ≤ 2147483647 := by
  have := Int32.le_toInt (Int32.ofInt x)
  have := Int32.toInt_lt (Int32.ofInt x)
  unfold sp_w
  omega
theorem sp_wi {x : Int} (h1 : -2147483648 ≤ x) (h2 : x ≤ 2147483647) : sp_w x = x := i_to h1 h2
/-- a command's number j, the codes from f to g -/
def sp_c (G : tx_G) (c : Int) (j : Nat) : Int := (G.2.1.getD c.toNat (fun _ => 0)) j
def sp_g (G : tx_G) (f g : Int) : List Int := (G.2.2.drop f.toNat).take (g - f).toNat
/-- number j of request q -/
def sp_o (s : sp_R) (q j : Int) : Int := s (192 + 14 * q + j).toNat
/-- may two numbers be joined; what comes out -/
def sp_ok (c x y : Int) : Bool := decide (c = 24 ∨ c = 25 → (x = 0 ∨ x = 1) ∧ (y = 0 ∨ y = 1)) && decide (¬ c = 23)
def sp_j (c x y : Int) : Int := if c = 20 then (if sp_w x < sp_w y then 1 else 0) else if c = 21 then (if sp_w x = sp_w y then 1 else 0) else if c = 22 then (if sp_w y < sp_w x then 1 else 0) else if c = 24 then (if x + y = 2 then 1 else 0) else if c = 25 then (if 0 < x + y then 1 else 0) else if c = 26 then x + y else if c = 27 then x - y else x * y
/-- codes gone through: op says what an operand is worth; stores go to driver dr -/
def sp_ex (op : Int → sp_R → Int) (dr : Int) : List Int → List Int → sp_R → Option (List Int × sp_R)
  | [], st, s => some (st, s)
  | c :: cs, st, s =>
    if c = 23 then (match st with | x :: st => if x = 0 ∨ x = 1 then sp_ex op dr cs ((1 - x) :: st) s else none | [] => none)
    else if 20 ≤ c ∧ c ≤ 28 then (match st with | y :: x :: st => if sp_ok c x y = true then sp_ex op dr cs (sp_j c x y :: st) s else none | _ => none)
    else if 40 ≤ c ∧ c ≤ 47 then (match st with | x :: st => sp_ex op dr cs st (tx_u1 s (48 + 8 * dr + c - 40).toNat (x % 65536)) | [] => none)
    else if 50 ≤ c ∧ c ≤ 53 then (match st with | x :: st => sp_ex op dr cs st (tx_u1 s (80 + 4 * dr + c - 50).toNat (x % 65536)) | [] => none)
    else if 64 ≤ st.length then none else sp_ex op dr cs (op c s :: st) s
/-- what an operand of a command is worth -/
def sp_op (dr ar re : Int) (c : Int) (s : sp_R) : Int := if 1000 ≤ c then c - 1000 else if c < 8 then s (48 + 8 * dr + c).toNat else if c < 12 then s (80 + 4 * dr + c - 8).toNat else if c = 12 then ar else re
def sp_v (r : Option (List Int × sp_R)) : Int := match r with | some (x :: _, _) => x | _ => 0
def sp_s (s : sp_R) (r : Option (List Int × sp_R)) : sp_R := match r with | some (_, s') => s' | none => s
/-- a request's test, result, keeps; its sets -/
def sp_xt (G : tx_G) (s : sp_R) (q : Int) := sp_ex (sp_op (sp_o s q 0) (sp_o s q 2) 0) (sp_o s q 0) (sp_g G (sp_c G (sp_o s q 1) 3) (sp_c G (sp_o s q 1) 4)) [] s
def sp_xr (G : tx_G) (s : sp_R) (q : Int) := sp_ex (sp_op (sp_o s q 0) (sp_o s q 2) 0) (sp_o s q 0) (sp_g G (sp_c G (sp_o s q 1) 4) (sp_c G (sp_o s q 1) 5)) [] s
def sp_xs (G : tx_G) (s : sp_R) (dr q re : Int) := sp_ex (sp_op dr (sp_o s q 2) re) dr (sp_g G (sp_c G (sp_o s q 1) 5) (sp_c G (sp_o s q 1) 6)) [] s
def sp_xk (G : tx_G) (s : sp_R) (q : Int) := sp_ex (sp_op (sp_o s q 0) (sp_o s q 2) (sp_o s q 8)) (sp_o s q 0) (sp_g G (sp_c G (sp_o s q 1) 6) (sp_c G (sp_o s q 1) 7)) [] s
abbrev sp_tr (G : tx_G) (s : sp_R) (q : Int) : Prop := sp_v (sp_xt G s q) = 1
def sp_re (G : tx_G) (s : sp_R) (q : Int) : Int := sp_v (sp_xr G s q)
def sp_ke (G : tx_G) (s : sp_R) (q : Int) : sp_R := sp_s s (sp_xk G s q)
def sp_se (G : tx_G) (s : sp_R) (dr q re : Int) : sp_R := sp_s s (sp_xs G s dr q re)
/-- a request's number j becomes v; a place's number grows by one -/
def sp_u (s : sp_R) (q j v : Int) : sp_R := tx_u1 s (192 + 14 * q + j).toNat v
/-- the journal: room is made, a record is laid -/
def sp_sh (s : sp_R) : sp_R := tx_u1 (fun j => if 1592 ≤ j ∧ j < 2388 then s (j + 4) else s j) 2 199
def sp_ad (s : sp_R) (ev dr q : Int) : sp_R := tx_u1 (tx_u1 (tx_u1 (tx_u1 (tx_u1 s (1592 + 4 * s 2).toNat (s 0)) (1592 + 4 * s 2 + 1).toNat ev) (1592 + 4 * s 2 + 2).toNat dr) (1592 + 4 * s 2 + 3).toNat q) 2 (s 2 + 1)
def sp_ct (s : sp_R) (ev : Int) : sp_R := tx_u1 s (3 + ev).toNat (s (3 + ev).toNat + 1)
def sp_no (s : sp_R) (ev dr q : Int) : sp_R := sp_ad (if s 2 = 200 then sp_sh (sp_ct s ev) else sp_ct s ev) ev dr q
/-- a request ends badly -/
def sp_b1 (s : sp_R) (q y : Int) : sp_R := sp_u (sp_u (sp_u s q 6 3) q 7 y) q 13 (s 0)
def sp_b2 (s : sp_R) (k dr q : Int) : sp_R := if s (k + dr).toNat = q then tx_u1 s (k + dr).toNat (-1) else s
def sp_bad (s : sp_R) (q y : Int) : sp_R := sp_no (sp_b2 (sp_b2 (sp_b1 s q y) 28 (sp_o s q 0) q) 32 (sp_o s q 0) q) 3 (sp_o s q 0) q
/-- a snapshot -/
def sp_cp (s : sp_R) (dr : Int) : sp_R := fun j => if 96 + 4 * dr ≤ j ∧ j < 100 + 4 * dr then s (j - 16) else s j
def sp_sn (s : sp_R) (dr : Int) : sp_R := sp_no (tx_u1 (sp_cp s dr) (44 + dr).toNat 0) 6 dr (-1)
/-- a request ends well -/
def sp_w1 (s : sp_R) (q y : Int) : sp_R := tx_u1 (sp_u (sp_u (sp_u s q 6 2) q 8 y) q 13 (s 0)) (32 + sp_o s q 0).toNat (-1)
def sp_lg (s : sp_R) (dr q : Int) : sp_R := tx_u1 (tx_u1 s (112 + 20 * dr + s (44 + dr).toNat).toNat q) (44 + dr).toNat (s (44 + dr).toNat + 1)
def sp_w2 (G : tx_G) (s : sp_R) (q y : Int) : sp_R := sp_ke G (sp_no (sp_w1 s q y) 2 (sp_o s q 0) q) q
def sp_w3 (G : tx_G) (s : sp_R) (q y : Int) : sp_R := sp_lg (sp_w2 G s q y) (sp_o s q 0) q
def sp_wel (G : tx_G) (s : sp_R) (q y : Int) : sp_R := if sp_w3 G s q y (44 + sp_o s q 0).toNat < G.1 7 then sp_w3 G s q y else sp_sn (sp_w3 G s q y) (sp_o s q 0)
/-- a driver crashes -/
def sp_ls (s : sp_R) (dr : Int) : sp_R := fun j => if 80 + 4 * dr ≤ j ∧ j < 84 + 4 * dr then 0 else s j
def sp_d0 (G : tx_G) : Nat → Int
  | 0 => G.1 2
  | n + 1 => min (2 * sp_d0 G n) (G.1 3)
def sp_dl (G : tx_G) (k : Int) : Int := min (sp_d0 G (k - 1).toNat) (G.1 3)
def sp_k1 (s : sp_R) (dr : Int) : sp_R := sp_ls (tx_u1 (sp_no s 4 dr (-1)) (20 + dr).toNat (sp_no s 4 dr (-1) (20 + dr).toNat + 1)) dr
def sp_k2 (G : tx_G) (s : sp_R) (q : Int) : sp_R := if q = -1 then s else if sp_o s q 10 + 1 < G.1 6 then sp_u s q 10 (sp_o s q 10 + 1) else sp_bad (sp_u s q 10 (sp_o s q 10 + 1)) q 3
def sp_dd (dr : Int) : Nat → Int → sp_R → sp_R
  | 0, _, s => s
  | f + 1, i, s => sp_dd dr f (i + 1) (if sp_o s i 0 = dr ∧ sp_o s i 6 < 2 then sp_bad s i 5 else s)
def sp_k3 (G : tx_G) (s : sp_R) (dr : Int) : sp_R := if s (20 + dr).toNat ≤ G.1 5 then tx_u1 (tx_u1 s (12 + dr).toNat 1) (16 + dr).toNat (s 0 + 1 + sp_dl G (s (20 + dr).toNat)) else sp_dd dr (s 1).toNat 0 (sp_no (tx_u1 s (12 + dr).toNat 2) 8 dr (-1))
def sp_cr (G : tx_G) (s : sp_R) (dr : Int) : sp_R := sp_k3 G (sp_k2 G (sp_k1 s dr) (sp_k1 s dr (32 + dr).toNat)) dr
/-- the request in flight is decided; a driver starts again -/
def sp_de (G : tx_G) (s : sp_R) (dr q : Int) : sp_R := if sp_c G (sp_o s q 1) 1 = 2 then sp_bad s q 2 else if sp_c G (sp_o s q 1) 1 = 3 ∧ sp_tr G s q then sp_wel G s q (sp_re G s q) else sp_no (tx_u1 (tx_u1 (sp_u s q 6 0) (28 + dr).toNat q) (32 + dr).toNat (-1)) 7 dr q
def sp_ba (s : sp_R) (dr : Int) : sp_R := fun j => if 80 + 4 * dr ≤ j ∧ j < 84 + 4 * dr then s (j + 16) else s j
def sp_r1 (s : sp_R) (dr : Int) : sp_R := sp_ba (sp_no (tx_u1 (tx_u1 s (12 + dr).toNat 0) (24 + dr).toNat (s 0)) 5 dr (-1)) dr
def sp_rl (G : tx_G) (dr : Int) : Nat → Int → sp_R → sp_R
  | 0, _, s => s
  | f + 1, i, s => sp_rl G dr f (i + 1) (sp_ke G s (s (112 + 20 * dr + i).toNat))
def sp_r2 (G : tx_G) (s : sp_R) (dr : Int) : sp_R := sp_rl G dr (s (44 + dr).toNat).toNat 0 (sp_r1 s dr)
def sp_rs (G : tx_G) (s : sp_R) (dr : Int) : sp_R := if sp_r2 G s dr (32 + dr).toNat = -1 then sp_r2 G s dr else sp_de G (sp_r2 G s dr) dr (sp_r2 G s dr (32 + dr).toNat)
/-- what comes next; what is late -/
def sp_nl (s : sp_R) (dr : Int) : Nat → Int → Int → Int
  | 0, _, b => b
  | f + 1, i, b => sp_nl s dr f (i + 1) (if sp_o s i 0 = dr ∧ sp_o s i 6 = 0 ∧ (b = -1 ∨ sp_o s b 3 < sp_o s i 3) then i else b)
def sp_nx (s : sp_R) (dr : Int) : Int := if s (28 + dr).toNat = -1 then sp_nl s dr (s 1).toNat 0 (-1) else s (28 + dr).toNat
def sp_ll (dr : Int) : Nat → Int → sp_R → sp_R
  | 0, _, s => s
  | f + 1, i, s => sp_ll dr f (i + 1) (if sp_o s i 0 = dr ∧ sp_o s i 6 = 0 ∧ 0 < sp_o s i 4 ∧ sp_o s i 4 ≤ s 0 - sp_o s i 5 then sp_bad s i 1 else s)
def sp_la (s : sp_R) (dr : Int) : sp_R := sp_ll dr (s 1).toNat 0 s
/-- a request begins; it goes on -/
def sp_be (G : tx_G) (s : sp_R) (dr : Int) : sp_R := if sp_nx s dr = -1 then s else sp_no (sp_u (tx_u1 (tx_u1 (tx_u1 s (28 + dr).toNat (-1)) (32 + dr).toNat (sp_nx s dr)) (36 + dr).toNat (sp_c G (sp_o s (sp_nx s dr) 1) 2)) (sp_nx s dr) 6 1) 1 dr (sp_nx s dr)
abbrev sp_pl (s : sp_R) (q p : Int) : Prop := sp_o s q 11 = p ∧ ¬ sp_o s q 12 = 0
def sp_pd (s : sp_R) (q : Int) : sp_R := sp_u s q 12 (sp_o s q 12 - 1)
def sp_g1 (G : tx_G) (s : sp_R) (dr q : Int) : sp_R := sp_u (sp_se G s dr q (sp_re G s q)) q 9 (sp_o (sp_se G s dr q (sp_re G s q)) q 9 + 1)
def sp_g2 (G : tx_G) (s : sp_R) (dr q : Int) : sp_R := if sp_pl s q 1 then sp_cr G (sp_pd s q) dr else if sp_pl (sp_g1 G s dr q) q 2 then sp_cr G (sp_pd (sp_g1 G s dr q) q) dr else sp_wel G (sp_g1 G s dr q) q (sp_re G s q)
def sp_g0 (s : sp_R) (dr : Int) : sp_R := tx_u1 s (36 + dr).toNat (s (36 + dr).toNat - 1)
def sp_go (G : tx_G) (s : sp_R) (dr : Int) : sp_R := if 0 < s (36 + dr).toNat - 1 then sp_g0 s dr else sp_g2 G (sp_g0 s dr) dr (s (32 + dr).toNat)
/-- a driver's tick, a tick -/
def sp_t1 (G : tx_G) (s : sp_R) (dr : Int) : sp_R := if s (12 + dr).toNat = 1 ∧ s (16 + dr).toNat ≤ s 0 then sp_rs G s dr else s
def sp_t2 (s : sp_R) (dr : Int) : sp_R := if s (12 + dr).toNat = 2 then s else sp_la s dr
def sp_t3 (G : tx_G) (s : sp_R) (dr : Int) : sp_R := if s (12 + dr).toNat = 0 ∧ s (32 + dr).toNat = -1 then sp_be G s dr else s
def sp_t4 (G : tx_G) (s : sp_R) (dr : Int) : sp_R := if s (12 + dr).toNat = 0 ∧ ¬ s (32 + dr).toNat = -1 then sp_go G s dr else s
def sp_t5 (G : tx_G) (s : sp_R) (dr : Int) : sp_R := if s 0 + 1 - s (24 + dr).toNat < G.1 4 then s else tx_u1 s (20 + dr).toNat 0
def sp_t6 (s : sp_R) (dr : Int) : sp_R := tx_u1 s (40 + dr).toNat (s (40 + dr).toNat + 1)
def sp_t7 (G : tx_G) (s : sp_R) (dr : Int) : sp_R := if s (12 + dr).toNat = 0 then sp_t6 (sp_t5 G s dr) dr else s
def sp_tk (G : tx_G) (s : sp_R) (dr : Int) : sp_R := sp_t7 G (sp_t4 G (sp_t3 G (sp_t2 (sp_t1 G s dr) dr) dr) dr) dr
def sp_tl (G : tx_G) : Nat → Int → sp_R → sp_R
  | 0, _, s => s
  | f + 1, i, s => sp_tl G f (i + 1) (sp_tk G s i)
def sp_ti (G : tx_G) (s : sp_R) : sp_R := tx_u1 (sp_tl G (G.1 0).toNat 0 s) 0 (sp_tl G (G.1 0).toNat 0 s 0 + 1)
