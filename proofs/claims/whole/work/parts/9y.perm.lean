/-! town and draft change places -/
def pi (k : Nat) : Nat := if 38 ≤ k ∧ k ≤ 50 then k + 13 else if 51 ≤ k ∧ k ≤ 63 then k - 13 else k
theorem pi_pi (k : Nat) : pi (pi k) = k := by
  unfold pi
  by_cases a : 38 ≤ k ∧ k ≤ 50
  · rw [if_pos a, if_neg (by omega), if_pos (by omega)]; omega
  · rw [if_neg a]
    by_cases b : 51 ≤ k ∧ k ≤ 63
    · rw [if_pos b, if_pos (by omega)]; omega
    · rw [if_neg b, if_neg a, if_neg b]
theorem pi_hi {k : Nat} (h : 64 ≤ k) : pi k = k := by unfold pi; rw [if_neg (by omega), if_neg (by omega)]
theorem pi_lo {k : Nat} (h : k < 38) : pi k = k := by unfold pi; rw [if_neg (by omega), if_neg (by omega)]
theorem pi_mp (x : Option Nat) : (x.map pi).map pi = x := by
  cases x with
  | none => rfl
  | some k => show some (pi (pi k)) = some k; rw [pi_pi]
theorem shp_pi : ∀ k, k < 109 → shp[pi k]? = shp[k]? := by decide +kernel
theorem shp_len : shp.length = 109 := rfl
theorem shp_pi' (k : Nat) : shp[pi k]? = shp[k]? := by
  by_cases h : k < 109
  · exact shp_pi k h
  · rw [pi_hi (by omega)]
set_option maxRecDepth 100000 in
theorem hrt_pi (x y : Option Nat) : (hrt 38 51 x y).map (List.map (Option.map pi)) = (List.range 109).map (fun k => (hrt 51 38 (x.map pi) (y.map pi)).getD (pi k) []) := rfl
set_option maxRecDepth 100000 in
theorem hrt_len (t d : Nat) (x y : Option Nat) : (hrt t d x y).length = 109 := rfl
theorem getD_mp {l : List (Option Nat)} {j : Nat} : (l.getD j none).map pi = (l.map (Option.map pi)).getD j none := by
  rw [List.getD_eq_getElem?_getD, List.getD_eq_getElem?_getD, List.getElem?_map]
  cases l[j]? <;> rfl
theorem rr_pi (x y : Option Nat) (k j : Nat) : (rr 38 51 x y k j).map pi = rr 51 38 (x.map pi) (y.map pi) (pi k) j := by
  unfold rr
  rw [getD_mp]
  congr 1
  by_cases h : k < 109
  · have e := congrArg (fun l => l[k]?) (hrt_pi x y)
    rw [List.getElem?_map, List.getElem?_map, List.getElem?_range h] at e
    rw [List.getD_eq_getElem?_getD (l := hrt 38 51 x y)]
    cases hq : (hrt 38 51 x y)[k]? with
    | none => rw [hq] at e; cases e
    | some l => rw [hq] at e; exact Option.some.inj e
  · rw [pi_hi (by omega), List.getD_eq_getElem?_getD, List.getD_eq_getElem?_getD, List.getElem?_eq_none (by rw [hrt_len]; omega), List.getElem?_eq_none (by rw [hrt_len]; omega)]
    rfl
def pS {α : Type} (σ : Nat → α) : Nat → α := fun k => σ (pi k)
def gP (G : hGl) : hGl := (G.1, G.2.1, G.2.2.1, G.2.2.2.1, fun k => hgA G (pi k), G.2.2.2.2.2)
theorem hfs_pi {ad : Nat → Nat} {x y : Option Nat} {σ : hS} {k : Nat} : ∀ (fl : List Bool) (j : Nat), hfs (fun k => ad (pi k)) (rr 38 51 x y) (pS σ) k j fl = hfs ad (rr 51 38 (x.map pi) (y.map pi)) σ (pi k) j fl
  | [], j => rfl
  | b :: t, j => by
    rw [hfs, hfs, hfs_pi t (j + 1)]
    congr 1
    cases b with
    | false => rfl
    | true =>
      show va_rf ((rr 38 51 x y k j).map (fun k => ad (pi k))) = va_rf ((rr 51 38 (x.map pi) (y.map pi) (pi k) j).map ad)
      rw [← rr_pi, Option.map_map]
      rfl
theorem hEk_pi {ca : Nat → ClassId} {ad : Nat → Nat} {x y : Option Nat} {σ : hS} {τ : hT} {k : Nat} (q : Nat × Nat) : hEk ca (fun k => ad (pi k)) (rr 38 51 x y) (pS σ) (pS τ) k q = hEk ca ad (rr 51 38 (x.map pi) (y.map pi)) σ τ (pi k) q := by
  unfold hEk
  rw [hfs_pi]
  rfl
theorem hWd_pi {ca : Nat → ClassId} {ad : Nat → Nat} {x y : Option Nat} {σ : hS} {τ : hT} (k : Nat) : (hWd ca (fun k => ad (pi k)) (rr 38 51 x y) (pS σ) (pS τ) 0 shp)[k]? = (hWd ca ad (rr 51 38 (x.map pi) (y.map pi)) σ τ 0 shp)[pi k]? := by
  rw [hWd_get, hWd_get, shp_pi', Nat.zero_add, Nat.zero_add]
  congr 1
  funext q
  rw [hEk_pi]
theorem hHp_pi {G : hGl} {x y : Option Nat} {σ : hS} {τ : hT} {H : Heap} (h : hHp G shp (rr 51 38 x y) σ τ H) : hHp (gP G) shp (rr 38 51 (x.map pi) (y.map pi)) (pS σ) (pS τ) H := by
  obtain ⟨h1, h2, h3⟩ := h
  have e : ∀ k, (hWd (hgC G) (fun k => hgA G (pi k)) (rr 38 51 (x.map pi) (y.map pi)) (pS σ) (pS τ) 0 shp)[k]? = (hWd (hgC G) (hgA G) (rr 51 38 x y) σ τ 0 shp)[pi k]? := fun k => by
    have := hWd_pi (ca := hgC G) (ad := hgA G) (x := x.map pi) (y := y.map pi) (σ := σ) (τ := τ) k
    rw [pi_mp, pi_mp] at this
    exact this
  refine ⟨fun k q hq => h1 (pi k) q ((e k).symm.trans hq), fun i j p q hp hq hpq => ?_, fun k q hq => h3 (pi k) q ((e k).symm.trans hq)⟩
  have := h2 (pi i) (pi j) p q ((e i).symm.trans hp) ((e j).symm.trans hq) hpq
  rw [← pi_pi i, ← pi_pi j, this]

