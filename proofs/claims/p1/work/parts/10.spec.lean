/-! The document's class as mathematics: bytes and characters, the table of case, the writing. Nothing here speaks of the machine. -/
-- characters and bytes
def sp_len (utf : Bool) (c : Nat) : Nat := if utf = false ∨ c < 128 then 1 else if c < 2048 then 2 else if c < 65536 then 3 else 4
def sp_enc (utf : Bool) (c : Nat) : List Nat :=
  if utf = false ∨ c < 128 then [c]
  else if c < 2048 then [192 + c / 64, 128 + c % 64]
  else if c < 65536 then [224 + c / 4096, 128 + c / 64 % 64, 128 + c % 64]
  else [240 + c / 262144, 128 + c / 4096 % 64, 128 + c / 64 % 64, 128 + c % 64]
def sp_encs (utf : Bool) (cs : List Nat) : List Nat := cs.flatMap (sp_enc utf)
def sp_ok (utf : Bool) (c : Nat) : Bool := if utf then decide (c ≤ 1114111 ∧ (c < 55296 ∨ 57343 < c)) else decide (c ≤ 255)
def sp_oks (utf : Bool) (cs : List Nat) : Prop := ∀ c ∈ cs, sp_ok utf c = true
def sp_lead (utf : Bool) (b : Nat) : Nat := if utf = false ∨ b < 128 then 1 else if b < 194 ∨ 244 < b then 0 else if b < 224 then 2 else if b < 240 then 3 else 4
-- the character that a lead byte and what is behind it make
def sp_b (l : List Nat) (k : Nat) : Nat := l.getD k 0
def sp_chr (utf : Bool) (l : List Nat) (k : Nat) : Nat :=
  let b := sp_b l k
  let n := sp_lead utf b
  if n = 2 then b % 32 * 64 + sp_b l (k + 1) % 64
  else if n = 3 then (b % 16 * 64 + sp_b l (k + 1) % 64) * 64 + sp_b l (k + 2) % 64
  else if n = 4 then ((b % 8 * 64 + sp_b l (k + 1) % 64) * 64 + sp_b l (k + 2) % 64) * 64 + sp_b l (k + 3) % 64
  else b
def sp_con (l : List Nat) (k : Nat) : Bool := decide (k < l.length ∧ 128 ≤ sp_b l k ∧ sp_b l k < 192)
-- is there a whole character at k? (k < l.length)
def sp_good (utf : Bool) (l : List Nat) (k : Nat) : Bool :=
  decide (sp_lead utf (sp_b l k) ≠ 0) && (decide (sp_lead utf (sp_b l k) < 2) || sp_con l (k + 1)) && (decide (sp_lead utf (sp_b l k) < 3) || sp_con l (k + 2)) && (decide (sp_lead utf (sp_b l k) < 4) || sp_con l (k + 3)) && sp_ok utf (sp_chr utf l k) && decide (sp_len utf (sp_chr utf l k) = sp_lead utf (sp_b l k))
-- from k on: the characters up to the first bad place, and that place (or -1)
def sp_dec (utf : Bool) (l : List Nat) : Nat → Nat → List Nat × Int
  | 0, _ => ([], -1)
  | f + 1, k => if l.length ≤ k then ([], -1) else if sp_good utf l k = true then (sp_chr utf l k :: (sp_dec utf l f (k + sp_lead utf (sp_b l k))).1, (sp_dec utf l f (k + sp_lead utf (sp_b l k))).2) else ([], (k : Int))
def sp_chars (utf : Bool) (l : List Nat) : List Nat := (sp_dec utf l l.length 0).1
def sp_fault (utf : Bool) (l : List Nat) : Int := (sp_dec utf l l.length 0).2
-- signs
def sp_see (t : List Nat) (k e : Nat) : Int := if k < e then (t.getD k 0 : Nat) else -1
def sp_dig (c : Int) : Bool := decide (48 ≤ c ∧ c ≤ 57)
def sp_let (c : Int) : Bool := decide ((97 ≤ c ∧ c ≤ 122) ∨ (65 ≤ c ∧ c ≤ 90))
def sp_wrd (c : Int) : Bool := sp_let c || sp_dig c || decide (c = 95)
def sp_val (c : Int) : Int := if 48 ≤ c ∧ c ≤ 57 then c - 48 else if 97 ≤ c ∧ c ≤ 102 then c - 87 else if 65 ≤ c ∧ c ≤ 70 then c - 55 else 99
-- the first place from k on that is e, or where p does not hold
def sp_run (p : Int → Bool) (t : List Nat) (e : Nat) : Nat → Nat → Nat
  | 0, k => k
  | f + 1, k => if k < e ∧ p (t.getD k 0 : Nat) = true then sp_run p t e f (k + 1) else k
def sp_to (p : Int → Bool) (t : List Nat) (k e : Nat) : Nat := sp_run p t e (e - k) k
-- case: of each row the first and the last upper one, the step, how far the lower one is, the ways (0 both, 1 up alone, 2 down alone)
abbrev sp_Row : Type := Int × Int × Int × Int × Int
def sp_rows : List sp_Row := [(65, 90, 1, 32, 0), (192, 214, 1, 32, 0), (216, 222, 1, 32, 0), (256, 302, 2, 1, 0), (306, 310, 2, 1, 0), (313, 327, 2, 1, 0), (330, 374, 2, 1, 0), (376, 376, 1, -121, 0), (377, 381, 2, 1, 0), (913, 929, 1, 32, 0), (931, 937, 1, 32, 0), (1024, 1039, 1, 80, 0), (1040, 1071, 1, 32, 0), (83, 83, 1, 300, 1), (924, 924, 1, -743, 1), (931, 931, 1, 31, 1), (8490, 8490, 1, -8383, 2), (8491, 8491, 1, -8262, 2)]
def sp_isUp (r : sp_Row) (x : Int) : Bool := decide (r.1 ≤ x ∧ x ≤ r.2.1 ∧ ¬ (r.2.2.1 = 2 ∧ (x - r.1) % 2 ≠ 0))
def sp_find (up : Bool) (c : Int) : List sp_Row → Int
  | [] => c
  | r :: rs => if r.2.2.2.2 ≠ (if up then 2 else 1) ∧ sp_isUp r (if up then c - r.2.2.2.1 else c) = true then (if up then c - r.2.2.2.1 else c + r.2.2.2.1) else sp_find up c rs
def sp_many (utf ucp : Bool) : Nat := if utf then 18 else if ucp then 3 else 1
-- how: 0 as it is, 1 upper, 2 lower
def sp_case (utf ucp : Bool) (how c : Nat) : Nat := if how = 0 then c else (sp_find (how = 1) (c : Int) (sp_rows.take (sp_many utf ucp))).toNat
-- the result, and how what comes to it is turned: bytes, steady, next
abbrev sp_O : Type := List Nat × Nat × Nat
def sp_one (utf ucp : Bool) (o : sp_O) (c : Nat) : Option sp_O :=
  if o.1.length + (sp_enc utf (sp_case utf ucp (if o.2.2 = 0 then o.2.1 else o.2.2) c)).length ≤ 262144 then some (o.1 ++ sp_enc utf (sp_case utf ucp (if o.2.2 = 0 then o.2.1 else o.2.2) c), o.2.1, 0) else none
def sp_all (utf ucp : Bool) : List Nat → sp_O → Option sp_O
  | [], o => some o
  | c :: cs, o => match sp_one utf ucp o c with
    | none => none
    | some o' => sp_all utf ucp cs o'
-- groups: greatest, what each holds (characters), names, the mark
abbrev sp_Src : Type := Nat × (Nat → Option (List Nat)) × List (List Nat × Nat) × List Nat
-- utf, ucp, rich, empty, unknown
abbrev sp_Md : Type := Bool × Bool × Bool × Bool × Bool
-- none: there is no such group; some none: it is unset; some (some g): it is set
def sp_best (S : Nat → Option (List Nat)) (w : List Nat) (best : Option (Option Nat)) (x : List Nat × Nat) : Option (Option Nat) :=
  if x.1 = w then (if (S x.2).isSome then (match best with | some (some g) => some (some (min g x.2)) | _ => some (some x.2)) else (match best with | none => some none | _ => best)) else best
def sp_named (G : sp_Src) (w : List Nat) : Option (Option Nat) := G.2.2.1.foldl (sp_best G.2.1 w) none
def sp_numb (G : sp_Src) (v : Nat) : Option (Option Nat) := if G.1 < v then none else if (G.2.1 v).isSome then some (some v) else some none
-- what a step of the writing comes to: code (0: none), the character where it was met (or -1), the next place, the result
abbrev sp_R : Type := Int × Int × Nat × sp_O
def sp_bad (c : Int) (k : Nat) (o : sp_O) : sp_R := (c, (k : Int), 0, o)
def sp_goes (i : Nat) (o : sp_O) : sp_R := (0, -1, i, o)
def sp_lift (i : Nat) (o : sp_O) (r : Option sp_O) : sp_R := match r with
  | none => (-48, -1, 0, o)
  | some o' => (0, -1, i, o')
def sp_group (M : sp_Md) (G : sp_Src) (r : Option (Option Nat)) (k i : Nat) (o : sp_O) : sp_R := match r with
  | none => if M.2.2.2.2 then (if M.2.2.2.1 then sp_goes i o else sp_bad (-55) k o) else sp_bad (-49) k o
  | some none => if M.2.2.2.1 then sp_goes i o else sp_bad (-55) k o
  | some (some g) => sp_lift i o (sp_all M.1 M.2.1 ((G.2.1 g).getD []) o)
-- a number's worth, at most 65535
def sp_num (t : List Nat) : Nat → Nat → Nat → Nat
  | 0, _, v => v
  | f + 1, k, v => sp_num t f (k + 1) (min 65535 (v * 10 + t.getD k 0 - 48))
-- the end of a part that begins at k
def sp_close (t : List Nat) (e : Nat) (colon : Bool) : Nat → Nat → Nat → Option Nat
  | 0, _, _ => none
  | f + 1, k, deep =>
    if e ≤ k then none
    else if t.getD k 0 = 92 then sp_close t e colon f (k + 2) deep
    else if t.getD k 0 = 36 ∧ sp_see t (k + 1) e = 123 then sp_close t e colon f (k + 2) (deep + 1)
    else if t.getD k 0 = 125 then (if deep = 0 then some k else sp_close t e colon f (k + 1) (deep - 1))
    else if t.getD k 0 = 58 ∧ colon = true ∧ deep = 0 then some k
    else sp_close t e colon f (k + 1) deep
def sp_end (t : List Nat) (k e : Nat) (colon : Bool) : Option Nat := sp_close t e colon (e - k) k 0
-- $ at k: the number or the name that begins at i ends there
def sp_refEnd (t : List Nat) (i e : Nat) : Nat := if sp_dig (sp_see t i e) then sp_to sp_dig t i e else sp_to sp_wrd t i (min e (i + 32))
def sp_ref (G : sp_Src) (t : List Nat) (i j : Nat) : Option (Option Nat) := if sp_dig (sp_see t i j) then sp_numb G (sp_num t (j - i) i 0) else sp_named G ((t.drop i).take (j - i))
def sp_mark (M : sp_Md) (G : sp_Src) (t : List Nat) (k e : Nat) (br : Bool) (i : Nat) (o : sp_O) : sp_R :=
  if sp_see t (i + 1) e = 77 ∧ sp_see t (i + 2) e = 65 ∧ sp_see t (i + 3) e = 82 ∧ sp_see t (i + 4) e = 75 then
    (if br = true ∧ sp_see t (i + 5) e ≠ 125 then sp_bad (-58) k o else sp_lift (if br then i + 6 else i + 5) o (sp_all M.1 M.2.1 G.2.2.2 o))
  else sp_bad (-35) k o
-- deeper: writes a part inside, if that is still allowed
def sp_choice (M : sp_Md) (G : sp_Src) (t : List Nat) (deeper : Option (Nat → Nat → sp_O → sp_R)) (k e i j : Nat) (o : sp_O) : sp_R :=
  let minus := decide (sp_see t (j + 1) e = 45)
  match sp_end t (j + 2) e (!minus) with
  | none => sp_bad (-58) k o
  | some one =>
    match (if t.getD one 0 = 58 then sp_end t (one + 1) e false else some one) with
    | none => sp_bad (-58) k o
    | some two =>
      match deeper with
      | none => sp_bad (-35) k o
      | some go =>
        let inside := fun (a b : Nat) => match go a b o with
          | (c, x, _, o') => if c = 0 then sp_goes (two + 1) o' else (c, x, 0, o')
        match sp_ref G t i j with
        | none => if M.2.2.2.2 then (if minus then inside (j + 2) one else if t.getD one 0 = 58 then inside (one + 1) two else sp_goes (two + 1) o) else sp_bad (-49) k o
        | some none => if minus then inside (j + 2) one else if t.getD one 0 = 58 then inside (one + 1) two else sp_goes (two + 1) o
        | some (some g) => if minus then sp_lift (two + 1) o (sp_all M.1 M.2.1 ((G.2.1 g).getD []) o) else inside (j + 2) one
def sp_dollar (M : sp_Md) (G : sp_Src) (t : List Nat) (deeper : Option (Nat → Nat → sp_O → sp_R)) (k e : Nat) (o : sp_O) : sp_R :=
  let br := decide (sp_see t (k + 1) e = 123)
  let i := if br then k + 2 else k + 1
  if sp_see t i e = 36 ∧ br = false then sp_lift (k + 2) o (sp_one M.1 M.2.1 o 36)
  else if sp_see t i e = 42 then sp_mark M G t k e br i o
  else
    let j := sp_refEnd t i e
    if j = i then sp_bad (-35) k o
    else if br = false then sp_group M G (sp_ref G t i j) k j o
    else if sp_see t j e = 125 then sp_group M G (sp_ref G t i j) k (j + 1) o
    else if M.2.2.1 = true ∧ sp_see t j e = 58 ∧ (sp_see t (j + 1) e = 45 ∨ sp_see t (j + 1) e = 43) then sp_choice M G t deeper k e i j o
    else sp_bad (-58) k o
-- a number's worth in base r
def sp_worth (r : Nat) (t : List Nat) : Nat → Nat → Nat → Nat
  | 0, _, v => v
  | f + 1, k, v => sp_worth r t f (k + 1) (v * r + (sp_val (t.getD k 0 : Nat)).toNat)
def sp_digs (r : Nat) (t : List Nat) (i e : Nat) : Nat := sp_to (fun c => decide (sp_val c < r)) t i e
def sp_bare (r : Nat) (t : List Nat) (i e : Nat) : Option (Nat × Nat) := some (sp_worth r t (sp_digs r t i (min e (i + 2)) - i) i 0, sp_digs r t i (min e (i + 2)))
def sp_braced (utf : Bool) (r : Nat) (t : List Nat) (i e : Nat) : Option (Nat × Nat) :=
  if sp_see t i e = 123 then
    (if sp_digs r t (i + 1) (min e (i + 9)) = i + 1 then none
     else if sp_see t (sp_digs r t (i + 1) (min e (i + 9))) e = 125 then
       (if sp_ok utf (sp_worth r t (sp_digs r t (i + 1) (min e (i + 9)) - (i + 1)) (i + 1) 0) = true then some (sp_worth r t (sp_digs r t (i + 1) (min e (i + 9)) - (i + 1)) (i + 1) 0, sp_digs r t (i + 1) (min e (i + 9)) + 1) else none)
     else none)
  else none
def sp_ctl (d : Int) : Nat := (if 97 ≤ d ∧ d ≤ 122 then d - 96 else if 64 ≤ d then d - 64 else d + 64).toNat
-- the character that \ and c stand for; what is behind c begins at i
def sp_esc (utf : Bool) (t : List Nat) (c : Int) (i e : Nat) : Option (Nat × Nat) :=
  if c = 97 then some (7, i)
  else if c = 101 then some (27, i)
  else if c = 102 then some (12, i)
  else if c = 110 then some (10, i)
  else if c = 114 then some (13, i)
  else if c = 116 then some (9, i)
  else if c = 99 then (if 32 ≤ sp_see t i e ∧ sp_see t i e ≤ 126 then some (sp_ctl (sp_see t i e), i + 1) else none)
  else if c = 48 then sp_bare 8 t i e
  else if c = 111 then sp_braced utf 8 t i e
  else if c = 120 then (if sp_see t i e = 123 then sp_braced utf 16 t i e else sp_bare 16 t i e)
  else none
-- where \Q from i on ends
def sp_quote (t : List Nat) (e : Nat) : Nat → Nat → Nat
  | 0, k => k
  | f + 1, k => if k < e ∧ ¬ (t.getD k 0 = 92 ∧ sp_see t (k + 1) e = 69) then sp_quote t e f (k + 1) else k
def sp_slash (M : sp_Md) (t : List Nat) (k e : Nat) (o : sp_O) : sp_R :=
  if sp_see t (k + 1) e = 81 then sp_lift (sp_quote t e (e - (k + 2)) (k + 2) + 2) o (sp_all M.1 M.2.1 ((t.drop (k + 2)).take (sp_quote t e (e - (k + 2)) (k + 2) - (k + 2))) o)
  else if sp_see t (k + 1) e = 69 then sp_goes (k + 2) (o.1, 0, o.2.2)
  else if sp_see t (k + 1) e = 85 then sp_goes (k + 2) (o.1, 1, o.2.2)
  else if sp_see t (k + 1) e = 76 then sp_goes (k + 2) (o.1, 2, o.2.2)
  else if sp_see t (k + 1) e = 117 then sp_goes (k + 2) (o.1, o.2.1, 1)
  else if sp_see t (k + 1) e = 108 then sp_goes (k + 2) (o.1, o.2.1, 2)
  else if 0 ≤ sp_see t (k + 1) e ∧ sp_let (sp_see t (k + 1) e) = false ∧ sp_dig (sp_see t (k + 1) e) = false then sp_lift (k + 2) o (sp_one M.1 M.2.1 o (t.getD (k + 1) 0))
  else match sp_esc M.1 t (sp_see t (k + 1) e) (k + 2) e with
    | none => sp_bad (-57) k o
    | some (v, j) => sp_lift j o (sp_one M.1 M.2.1 o v)
def sp_step (M : sp_Md) (G : sp_Src) (t : List Nat) (deeper : Option (Nat → Nat → sp_O → sp_R)) (k e : Nat) (o : sp_O) : sp_R :=
  if t.getD k 0 = 36 then sp_dollar M G t deeper k e o
  else if t.getD k 0 = 92 ∧ M.2.2.1 = true then sp_slash M t k e o
  else sp_lift (k + 1) o (sp_one M.1 M.2.1 o (t.getD k 0))
def sp_loop (M : sp_Md) (G : sp_Src) (t : List Nat) (deeper : Option (Nat → Nat → sp_O → sp_R)) (e : Nat) : Nat → Nat → sp_O → sp_R
  | 0, k, o => sp_goes k o
  | f + 1, k, o => if k < e then (if (sp_step M G t deeper k e o).1 = 0 then sp_loop M G t deeper e f (sp_step M G t deeper k e o).2.2.1 (sp_step M G t deeper k e o).2.2.2 else sp_step M G t deeper k e o) else sp_goes k o
def sp_part (M : sp_Md) (G : sp_Src) (t : List Nat) : Nat → Nat → Nat → sp_O → sp_R
  | 0, k, e, o => sp_loop M G t none e (e - k) k o
  | d + 1, k, e, o => sp_loop M G t (some (sp_part M G t d)) e (e - k) k o
-- where a character begins
def sp_off (utf : Bool) (t : List Nat) (i : Nat) : Nat := (sp_encs utf (t.take i)).length
-- code, offset, result
def sp_write (M : sp_Md) (G : sp_Src) (plain : Bool) (l : List Nat) : Int × Int × List Nat :=
  if 0 ≤ sp_fault M.1 l then (-3, sp_fault M.1 l, [])
  else if plain then (0, -1, l)
  else
    let t := sp_chars M.1 l
    let r := sp_part M G t 20 0 t.length ([], 0, 0)
    (r.1, if r.2.1 < 0 then -1 else (sp_off M.1 t r.2.1.toNat : Nat), if r.1 = 0 then r.2.2.2.1 else [])
