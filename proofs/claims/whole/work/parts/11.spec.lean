abbrev hF : Type := Nat → Int32
/-- fish, coins, salted, ate, proxy, day, salt -/
abbrev hDy : Type := hF × hF × hF × hF × hF × Int32 × Int32
def dF (d : hDy) : hF := d.1
def dC (d : hDy) : hF := d.2.1
def dS (d : hDy) : hF := d.2.2.1
def dA (d : hDy) : hF := d.2.2.2.1
def dP (d : hDy) : hF := d.2.2.2.2.1
def dD (d : hDy) : Int32 := d.2.2.2.2.2.1
def dL (d : hDy) : Int32 := d.2.2.2.2.2.2
/-- houses, hunger, fear, heard, odds, laws -/
abbrev hTw : Type := Nat × hF × hF × hF × Int32 × (Nat → hF → Int32)
def tH (t : hTw) : Nat := t.1
def tU (t : hTw) : hF := t.2.1
def tE (t : hTw) : hF := t.2.2.1
def tR (t : hTw) : hF := t.2.2.2.1
def tO (t : hTw) : Int32 := t.2.2.2.2.1
def tL (t : hTw) : Nat → hF → Int32 := t.2.2.2.2.2
def hcl (lo hi v : Int32) : Int32 := hmax lo (hmin hi v)
def vAll (all day : Int32) : hF := fun j => match j with
  | 1 => all
  | 2 => day
  | _ => 0
def vHs (t : hTw) (d : hDy) (all : Int32) (a : Nat) : hF := fun j => match j with
  | 0 => dF d a
  | 1 => all
  | 2 => dD d
  | 3 => tU t a
  | 4 => dC d a
  | 5 => tE t a
  | 6 => dS d a
  | 7 => dA d a
  | 8 => nI a
  | _ => 0
def fPrice (t : hTw) (d : hDy) : Int32 := hcl 1 99 (tL t 0 (upd (vAll (hsum (dF d) (tH t)) (dD d)) 7 (hsum (dA d) (tH t))))
def fEats (t : hTw) (d : hDy) (all : Int32) (a : Nat) : Int32 := hcl 0 (dF d a) (tL t 1 (vHs t d all a))
def fRots (t : hTw) (d : hDy) (all : Int32) (a : Nat) : Int32 := hcl 0 (dF d a - dS d a) (tL t 4 (vHs t d all a))
def fGlut (t : hTw) (d : hDy) (all : Int32) (a : Nat) : Int32 := hcl 0 99 (tL t 2 (upd (upd (vAll all (dD d)) 0 (dF d a)) 8 (nI a)))
def fVotes (t : hTw) (d : hDy) (all : Int32) (a : Nat) : Int32 := hcl 0 999 (tL t 3 (vHs t d all a))
def fMix (h v : Int32) : Int32 := ((h ^^^ v) * 1103515245 + 12345) ^^^ hush ((h ^^^ v) * 1103515245 + 12345) 15
def fIsGlut (t : hTw) (day sd : Int32) : Prop := (hush (fMix (fMix sd 115) (4 * day)) 1) - (hush (fMix (fMix sd 115) (4 * day)) 1) / 100 * 100 < tO t
/-- all have eaten e -/
def fAte (e : hF) (d : hDy) : hDy := (fun a => dF d a - e a, dC d, fun a => hmin (dS d a) (dF d a - e a), fun a => dA d a + e a, dP d, dD d, dL d)
/-- a DAY -/
def fDay (t : hTw) (gl : Bool) (d : hDy) : hDy :=
  let all := hsum (dF d) (tH t)
  let d1 := fAte (fEats t d all) d
  let all1 := hsum (dF d1) (tH t)
  (fun a => hmin 9999 (dF d1 a - fRots t d1 all1 a + (if gl = true then fGlut t d all a else 0)), dC d1, dS d1, dA d1, dP d1, dD d1 + 1, dL d1)
/-- alike as far as the houses go -/
def dEq (h : Nat) (d e : hDy) : Prop := (∀ a, a < h → dF d a = dF e a ∧ dC d a = dC e a ∧ dS d a = dS e a ∧ dA d a = dA e a ∧ dP d a = dP e a) ∧ dD d = dD e ∧ dL d = dL e
theorem dEq.rfl' {h : Nat} {d : hDy} : dEq h d d := ⟨fun _ _ => ⟨rfl, rfl, rfl, rfl, rfl⟩, rfl, rfl⟩
theorem dEq.symm {h : Nat} {d e : hDy} (q : dEq h d e) : dEq h e d := ⟨fun a ha => ⟨(q.1 a ha).1.symm, (q.1 a ha).2.1.symm, (q.1 a ha).2.2.1.symm, (q.1 a ha).2.2.2.1.symm, (q.1 a ha).2.2.2.2.symm⟩, q.2.1.symm, q.2.2.symm⟩
theorem dEq.trans {h : Nat} {d e f : hDy} (p : dEq h d e) (q : dEq h e f) : dEq h d f := ⟨fun a ha => ⟨(p.1 a ha).1.trans (q.1 a ha).1, (p.1 a ha).2.1.trans (q.1 a ha).2.1, (p.1 a ha).2.2.1.trans (q.1 a ha).2.2.1, (p.1 a ha).2.2.2.1.trans (q.1 a ha).2.2.2.1, (p.1 a ha).2.2.2.2.trans (q.1 a ha).2.2.2.2⟩, p.2.1.trans q.2.1, p.2.2.trans q.2.2⟩
theorem hsum_congr {f g : hF} : ∀ (n : Nat), (∀ a, a < n → f a = g a) → hsum f n = hsum g n
  | 0, _ => rfl
  | n + 1, h => by rw [hsum, hsum, hsum_congr n (fun a ha => h a (by omega)), h n (by omega)]
/-- the laws look at nine variables alone -/
def hLx (L : Nat → hF → Int32) : Prop := ∀ k v w, (∀ j, j < 9 → v j = w j) → L k v = L k w
/-- the towns are alike as far as the houses go -/
def tEq (t u : hTw) : Prop := tH t = tH u ∧ (∀ a, a < tH t → tU t a = tU u a ∧ tE t a = tE u a ∧ tR t a = tR u a) ∧ tO t = tO u ∧ (∀ k v, k < 5 → tL t k v = tL u k v) ∧ hLx (tL t)
theorem vHs_congr {t u : hTw} {d e : hDy} {all : Int32} {a h : Nat} (ht : tEq t u) (hd : dEq h d e) (ha : a < h) (hh : h = tH t) : vHs t d all a = vHs u e all a := by
  subst hh
  obtain ⟨q1, q2, q3, q4, q5⟩ := hd.1 a ha
  obtain ⟨p1, p2, p3⟩ := ht.2.1 a ha
  funext j
  unfold vHs
  rw [q1, q2, q3, q4, hd.2.1, p1, p2]
theorem fEats_congr {t u : hTw} {d e : hDy} {all : Int32} {a : Nat} (ht : tEq t u) (hd : dEq (tH t) d e) (ha : a < tH t) : fEats t d all a = fEats u e all a := by
  unfold fEats
  rw [vHs_congr ht hd ha rfl, (hd.1 a ha).1, ht.2.2.2.1 1 _ (by decide)]
theorem fRots_congr {t u : hTw} {d e : hDy} {all : Int32} {a : Nat} (ht : tEq t u) (hd : dEq (tH t) d e) (ha : a < tH t) : fRots t d all a = fRots u e all a := by
  unfold fRots
  rw [vHs_congr ht hd ha rfl, (hd.1 a ha).1, (hd.1 a ha).2.2.1, ht.2.2.2.1 4 _ (by decide)]
theorem fVotes_congr {t u : hTw} {d e : hDy} {all : Int32} {a : Nat} (ht : tEq t u) (hd : dEq (tH t) d e) (ha : a < tH t) : fVotes t d all a = fVotes u e all a := by
  unfold fVotes
  rw [vHs_congr ht hd ha rfl, ht.2.2.2.1 3 _ (by decide)]
theorem fGlut_congr {t u : hTw} {d e : hDy} {all : Int32} {a : Nat} (ht : tEq t u) (hd : dEq (tH t) d e) (ha : a < tH t) : fGlut t d all a = fGlut u e all a := by
  unfold fGlut
  rw [hd.2.1, (hd.1 a ha).1, ht.2.2.2.1 2 _ (by decide)]
theorem dEq.sum {t u : hTw} {d e : hDy} (ht : tEq t u) (hd : dEq (tH t) d e) : hsum (dF d) (tH t) = hsum (dF e) (tH u) := by
  rw [← ht.1]; exact hsum_congr _ (fun a ha => (hd.1 a ha).1)
theorem fPrice_congr {t u : hTw} {d e : hDy} (ht : tEq t u) (hd : dEq (tH t) d e) : fPrice t d = fPrice u e := by
  unfold fPrice
  rw [dEq.sum ht hd, hd.2.1, ← ht.1, hsum_congr (f := dA d) (g := dA e) _ (fun a ha => (hd.1 a ha).2.2.2.1), ht.2.2.2.1 0 _ (by decide)]
theorem fAte_congr {h : Nat} {e e' : hF} {d d' : hDy} (he : ∀ a, a < h → e a = e' a) (hd : dEq h d d') : dEq h (fAte e d) (fAte e' d') := by
  refine ⟨fun a ha => ?_, hd.2.1, hd.2.2⟩
  obtain ⟨q1, q2, q3, q4, q5⟩ := hd.1 a ha
  simp only [fAte, dF, dC, dS, dA, dP] at q1 q2 q3 q4 q5 ⊢
  rw [q1, q2, q3, q4, q5, he a ha]
  exact ⟨rfl, rfl, rfl, rfl, rfl⟩
theorem fDay_congr {t u : hTw} {d e : hDy} {gl : Bool} (ht : tEq t u) (hd : dEq (tH t) d e) : dEq (tH t) (fDay t gl d) (fDay u gl e) := by
  have hs := dEq.sum ht hd
  have h1 : dEq (tH t) (fAte (fEats t d (hsum (dF d) (tH t))) d) (fAte (fEats u e (hsum (dF e) (tH u))) e) := fAte_congr (fun a ha => by rw [hs]; exact fEats_congr ht hd ha) hd
  have hs1 := dEq.sum ht h1
  refine ⟨fun a ha => ?_, ?_, h1.2.2⟩
  · obtain ⟨q1, q2, q3, q4, q5⟩ := h1.1 a ha
    refine ⟨?_, q2, q3, q4, q5⟩
    show hmin 9999 (_ - _ + _) = hmin 9999 (_ - _ + _)
    rw [q1, hs1, fRots_congr ht h1 ha, hs, fGlut_congr ht hd ha]
  · show dD _ + 1 = dD _ + 1
    rw [h1.2.1]
/-- n DAYS, whether there is a glut told by the day -/
def fDays (t : hTw) (g : Int32 → Bool) : Nat → hDy → hDy
  | 0, d => d
  | n + 1, d => fDays t g n (fDay t (g (dD d)) d)
theorem fDays_congr {t u : hTw} {g : Int32 → Bool} (ht : tEq t u) : ∀ (n : Nat) {d e : hDy}, dEq (tH t) d e → dEq (tH t) (fDays t g n d) (fDays u g n e)
  | 0, _, _, h => h
  | n + 1, d, e, h => by
    unfold fDays
    rw [h.2.1]
    exact fDays_congr ht n (fDay_congr ht h)
theorem fDays_s (t : hTw) (g : Int32 → Bool) : ∀ (n : Nat) (d : hDy), fDays t g (n + 1) d = fDay t (g (dD (fDays t g n d))) (fDays t g n d)
  | 0, d => rfl
  | n + 1, d => by
    rw [fDays, fDays_s t g n]
    rfl
/-! the law's machine of the class -/
def lVar (v : hF) (w : Int32) : Int32 := if w < 0 then 0 else if 9 ≤ w then 0 else v w.toNatClampNeg
def lJoin (s a b : Int32) : Int32 := if s = 2 then a + b else if s = 3 then a - b else if s = 4 then a * b else if b = 0 then 0 else a / b
def lvalC (st op : hF) (sz : Nat) (v : hF) : Nat → Int32 → List Int32 → Int32
  | 0, _, _ => 0
  | n + 1, at', k =>
    if at' < 0 then 0 else if nI sz ≤ at' then 0 else
    if st at'.toNatClampNeg = 7 then k.headD 0
    else if st at'.toNatClampNeg ≤ 1 then
      if k.length < 24 then lvalC st op sz v n (at' + 1) ((if st at'.toNatClampNeg = 0 then op at'.toNatClampNeg else lVar v (op at'.toNatClampNeg)) :: k) else 0
    else match k with
      | b :: a :: k' =>
        if st at'.toNatClampNeg = 6 then lvalC st op sz v n (if a < b then at' + 1 else op at'.toNatClampNeg) k'
        else if st at'.toNatClampNeg = 5 ∧ b = 0 then 0
        else lvalC st op sz v n (at' + 1) (lJoin (st at'.toNatClampNeg) a b :: k')
      | _ => 0
def hstk (f : hF) : List Int32 → Prop
  | [] => True
  | x :: k => f k.length = x ∧ hstk f k
theorem hstk_upd {f : hF} {x : Int32} : ∀ {k : List Int32} {n : Nat}, k.length ≤ n → hstk f k → hstk (upd f n x) k
  | [], _, _, _ => trivial
  | y :: k, n, hn, h => ⟨by rw [pk_un (by simp at hn; omega)]; exact h.1, hstk_upd (by simp at hn; omega) h.2⟩
theorem lvalC_ext (st op : hF) (sz : Nat) {v w : hF} (h : ∀ j, j < 9 → v j = w j) : ∀ (n : Nat) (a : Int32) (k : List Int32), lvalC st op sz v n a k = lvalC st op sz w n a k
  | 0, _, _ => rfl
  | n + 1, a, k => by
    have hv : ∀ z : Int32, lVar v z = lVar w z := by
      intro z
      unfold lVar
      by_cases h1 : z < 0
      · rw [if_pos h1, if_pos h1]
      · rw [if_neg h1, if_neg h1]
        by_cases h2 : 9 ≤ z
        · rw [if_pos h2, if_pos h2]
        · rw [if_neg h2, if_neg h2]
          rcases pk_ix z (n := 9) (by decide) with q | q | ⟨j, hj, rfl⟩
          · exact absurd q h1
          · exact absurd q h2
          · rw [nI_clamp (by omega)]; exact h j hj
    unfold lvalC
    simp only [lvalC_ext st op sz h n, hv]

