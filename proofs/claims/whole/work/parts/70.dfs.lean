/-! THE ORDERS, AS THE MODEL TRIES THEM -/
theorem gD_map {B : Nat → Nat} {l : List Nat} {i : Nat} (h : i < l.length) : (l.map B).getD i 0 = B (l.getD i 0) := by
  rw [List.getD_eq_getElem?_getD, List.getD_eq_getElem?_getD, List.getElem?_map, List.getElem?_eq_getElem h]; rfl
theorem gD_mem {l : List Nat} {i : Nat} (h : i < l.length) : l.getD i 0 ∈ l := by
  rw [List.getD_eq_getElem?_getD, List.getElem?_eq_getElem h]; exact List.getElem_mem h
section NX
variable {B : Nat → Nat} {s : Nat}
theorem npR_map (hB : ∀ x y, x < s → y < s → (B x < B y ↔ x < y)) {l : List Nat} (hl : ∀ x ∈ l, x < s) : ∀ i, i < l.length → npR (l.map B) i = npR l i
  | 0, _ => rfl
  | i + 1, hi => by
    rw [npR, npR, gD_map hi, gD_map (show i < l.length by omega), npR_map hB hl i (by omega)]
    by_cases z : l.getD (i + 1) 0 < l.getD i 0
    · rw [if_pos z, if_pos ((hB _ _ (hl _ (gD_mem hi)) (hl _ (gD_mem (show i < l.length by omega)))).mpr z)]
    · rw [if_neg z, if_neg (fun y => z ((hB _ _ (hl _ (gD_mem hi)) (hl _ (gD_mem (show i < l.length by omega)))).mp y))]
theorem npL_map (hB : ∀ x y, x < s → y < s → (B x < B y ↔ x < y)) {l : List Nat} (hl : ∀ x ∈ l, x < s) {r : Nat} (hr : r < l.length) : ∀ i, i < l.length → npL (l.map B) r i = npL l r i
  | 0, _ => rfl
  | i + 1, hi => by
    rw [npL, npL, gD_map hi, gD_map hr, npL_map hB hl hr i (by omega)]
    have e := hB _ _ (hl _ (gD_mem hi)) (hl _ (gD_mem hr))
    by_cases z : r + 1 < i + 1 ∧ l.getD (i + 1) 0 < l.getD r 0
    · rw [if_pos z, if_pos ⟨z.1, e.mpr z.2⟩]
    · rw [if_neg z, if_neg (fun y => z ⟨y.1, e.mp y.2⟩)]
theorem sw2_map {l : List Nat} {i j : Nat} (hi : i < l.length) (hj : j < l.length) : sw2 (l.map B) i j = (sw2 l i j).map B := by
  unfold sw2
  rw [gD_map hi, gD_map hj, List.map_set, List.map_set]
theorem rv2_map : ∀ (d : Nat) (l : List Nat) (lo hi : Nat), hi < l.length → rv2 d (l.map B) lo hi = (rv2 d l lo hi).map B
  | 0, l, lo, hi, _ => rfl
  | d + 1, l, lo, hi, h => by
    rw [rv2, rv2]
    by_cases z : lo < hi
    · rw [if_pos z, if_pos z, sw2_map (by omega) h, rv2_map d _ _ _ (by rw [sw2_len]; omega)]
    · rw [if_neg z, if_neg z]
theorem nxO_map (hB : ∀ x y, x < s → y < s → (B x < B y ↔ x < y)) {l : List Nat} (hl : ∀ x ∈ l, x < s) : nxO (l.map B) = (nxO l).map (fun l' => l'.map B) := by
  unfold nxO
  by_cases h0 : l.length = 0
  · have : l = [] := List.length_eq_zero_iff.mp h0
    subst this; rfl
  · rw [List.length_map, npR_map hB hl _ (by omega)]
    have hle := npR_le l (l.length - 1)
    rcases hc : npR l (l.length - 1) with _ | r
    · rfl
    · rw [hc] at hle
      have h2 := npL_le l r (l.length - 1)
      show some _ = some _
      rw [npL_map hB hl (by omega) _ (by omega), sw2_map (by omega) (by omega), rv2_map _ _ _ _ (by rw [sw2_len]; omega)]
end NX
def nxJ (π : List Nat) : Nat → Nat → Option Nat
  | 0, _ => none
  | f + 1, c => if c ∈ π then nxJ π f (c + 1) else some c
theorem nxJ_some (π : List Nat) : ∀ (f c j : Nat), nxJ π f c = some j → c ≤ j ∧ j < c + f ∧ ¬ j ∈ π ∧ ∀ i, c ≤ i → i < j → i ∈ π
  | 0, c, j, h => by cases h
  | f + 1, c, j, h => by
    rw [nxJ] at h
    by_cases z : c ∈ π
    · rw [if_pos z] at h
      obtain ⟨h1, h2, h3, h4⟩ := nxJ_some π f (c + 1) j h
      refine ⟨by omega, by omega, h3, fun i hi1 hi2 => ?_⟩
      by_cases y : i = c
      · rw [y]; exact z
      · exact h4 i (by omega) hi2
    · rw [if_neg z] at h
      injection h with h
      subst h
      exact ⟨Nat.le_refl _, by omega, z, fun i h1 h2 => by omega⟩
theorem nxJ_none (π : List Nat) : ∀ (f c : Nat), nxJ π f c = none → ∀ i, c ≤ i → i < c + f → i ∈ π
  | 0, c, _, i, h1, h2 => by omega
  | f + 1, c, h, i, h1, h2 => by
    rw [nxJ] at h
    by_cases z : c ∈ π
    · rw [if_pos z] at h
      by_cases y : i = c
      · rw [y]; exact z
      · exact nxJ_none π f (c + 1) h i (by omega) (by omega)
    · rw [if_neg z] at h; cases h
/-- the leaves that the search comes to, behind π, from the number c on -/
def dfs (s : Nat) : Nat → List Nat → Nat → Option (List (List Nat))
  | 0, _, _ => none
  | f + 1, π, c =>
    if π.length = s then (match π with
      | [] => some [[]]
      | x :: xs => (dfs s f (x :: xs).dropLast ((x :: xs).getLastD 0 + 1)).map (fun Ls => (x :: xs) :: Ls))
    else match nxJ π (s - c) c with
      | some j => dfs s f (π ++ [j]) 0
      | none => (match π with
        | [] => some []
        | x :: xs => dfs s f (x :: xs).dropLast ((x :: xs).getLastD 0 + 1))
def nxs : Nat → List Nat → List (List Nat)
  | 0, _ => []
  | d + 1, π => π :: (match nxO π with
    | none => []
    | some π' => nxs d π')
theorem dfs_0 : dfs 0 700 [] 0 = some (nxs 120 (List.range 0)) := by decide +kernel
theorem dfs_1 : dfs 1 700 [] 0 = some (nxs 120 (List.range 1)) := by decide +kernel
theorem dfs_2 : dfs 2 700 [] 0 = some (nxs 120 (List.range 2)) := by decide +kernel
theorem dfs_3 : dfs 3 700 [] 0 = some (nxs 120 (List.range 3)) := by decide +kernel
theorem dfs_4 : dfs 4 700 [] 0 = some (nxs 120 (List.range 4)) := by decide +kernel
theorem dfs_5 : dfs 5 700 [] 0 = some (nxs 120 (List.range 5)) := by decide +kernel
theorem dfs_all {s : Nat} (h : s ≤ 5) : dfs s 700 [] 0 = some (nxs 120 (List.range s)) := by
  rcases (show s = 0 ∨ s = 1 ∨ s = 2 ∨ s = 3 ∨ s = 4 ∨ s = 5 by omega) with rfl | rfl | rfl | rfl | rfl | rfl
  · exact dfs_0
  · exact dfs_1
  · exact dfs_2
  · exact dfs_3
  · exact dfs_4
  · exact dfs_5
/-- the best of some orders -/
def foW (T : TD) (n : Nat) (σ : AS) (m : Nat) (b : List Nat) (Ls : List (List Nat)) (q : BQ) : BQ := Ls.foldl (fun q π => wg T n (oT σ m (π.map (fun j => b.getD j 0))) (fun j => nI ((π.map (fun j => b.getD j 0)).getD j 0)) q) q
theorem foW_c {T : TD} {n : Nat} {σ : AS} {m : Nat} {b : List Nat} {π : List Nat} {Ls : List (List Nat)} {q : BQ} : foW T n σ m b (π :: Ls) q = foW T n σ m b Ls (wg T n (oT σ m (π.map (fun j => b.getD j 0))) (fun j => nI ((π.map (fun j => b.getD j 0)).getD j 0)) q) := rfl
theorem fo_W {T : TD} {n : Nat} {σ : AS} {m : Nat} {b : List Nat} (hB : ∀ x y, x < b.length → y < b.length → (b.getD x 0 < b.getD y 0 ↔ x < y)) : ∀ (d : Nat) (π : List Nat) (q : BQ), (∀ x ∈ π, x < b.length) → fo T n σ m d (π.map (fun j => b.getD j 0)) q = foW T n σ m b (nxs d π) q
  | 0, π, q, _ => rfl
  | d + 1, π, q, h => by
    rw [fo, nxs, nxO_map (B := fun j => b.getD j 0) hB h, foW_c]
    rcases hc : nxO π with _ | π'
    · rfl
    · exact fo_W hB d π' _ (fun x hx => h x ((nxO_perm hc).mem_iff.mp hx))
theorem filter_rg {f : Nat → Bool} : ∀ P, ∀ x y, y < ((List.range P).filter f).length → x < y → ((List.range P).filter f).getD x 0 < ((List.range P).filter f).getD y 0 := by
  intro P x y hy hxy
  have h1 : ((List.range P).filter f).Pairwise (· < ·) := List.Pairwise.filter _ List.pairwise_lt_range
  have h2 := List.pairwise_iff_getElem.mp h1 x y (by omega) hy hxy
  rw [List.getD_eq_getElem?_getD, List.getD_eq_getElem?_getD, List.getElem?_eq_getElem hy, List.getElem?_eq_getElem (show x < ((List.range P).filter f).length by omega)]
  exact h2
theorem hpl_mono {H : Nat → Nat} {m P : Nat} : ∀ x y, x < (hpl H m P).length → y < (hpl H m P).length → ((hpl H m P).getD x 0 < (hpl H m P).getD y 0 ↔ x < y) := by
  intro x y hx hy
  constructor
  · intro h
    rcases Nat.lt_trichotomy x y with z | z | z
    · exact z
    · rw [z] at h; omega
    · have := filter_rg (f := fun p => decide (H p = m)) P y x hx z
      unfold hpl at h; omega
  · intro h; exact filter_rg (f := fun p => decide (H p = m)) P x y hy h
theorem map_rg (b : List Nat) : (List.range b.length).map (fun j => b.getD j 0) = b := by
  refine List.ext_getElem (by simp) (fun i h1 h2 => ?_)
  simp only [List.getElem_map, List.getElem_range]
  rw [List.getD_eq_getElem?_getD, List.getElem?_eq_getElem h2]; rfl
