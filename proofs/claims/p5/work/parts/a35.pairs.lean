/-! ===== both sides of a call: printed by a35.pairs.py ===== -/
section
variable {N : Nat} {z : xA} {a y : Nat} {l : xL} {z' : xA} {post : Option Value → xJ → xDb → Prop}
theorem CC_01 (h : CC 0 y l z z' post) : CC 1 y l z z' post := by
  intro P f S I J D R h1 h2 h3
  obtain ⟨P', h4, -, h5⟩ := h P f S I J D R h1 h2 h3
  exact ⟨P', h4, fun e => absurd e (by decide), fun b Q b1 b2 kk => h5 b Q (by omega) (by omega) kk⟩
/-- both sides, through a wrapper with a code: an int; a double -/
def PI (N : Nat) (z : xA) (yc : Nat) (lc : xL) (ym : Nat) (lm : xL) : Prop := ∃ z' c v, WA (N + 12800) z' ∧ CC 1 yc lc z z' (fun r J _ => r = some (.int c) ∧ (c = 0 → J 400 0 = Int32.toInt64 v)) ∧ MC ym lm z z' (fun r I _ _ => r = some (.int v) ∧ I 200 19 = c)
def PDb (N : Nat) (z : xA) (yc : Nat) (lc : xL) (ym : Nat) (lm : xL) : Prop := ∃ z' c v, WA (N + 12800) z' ∧ CC 1 yc lc z z' (fun r _ D => r = some (.int c) ∧ (c = 0 → D 401 0 = v)) ∧ MC ym lm z z' (fun r I _ _ => r = some (.double v) ∧ I 200 19 = c)
def PLg (N : Nat) (z : xA) (yc : Nat) (lc : xL) (ym : Nat) (lm : xL) : Prop := ∃ z' c v, WA (N + 12800) z' ∧ CC 1 yc lc z z' (fun r J _ => r = some (.int c) ∧ (c = 0 → J 400 0 = v)) ∧ MC ym lm z z' (fun r I _ _ => r = some (.long v) ∧ I 200 19 = c)
/-- without a wrapper -/
def PQn (a N : Nat) (z : xA) (yc : Nat) (lc : xL) (ym : Nat) (lm : xL) : Prop := ∃ z' v, WA (N + 12800) z' ∧ CC a yc lc z z' (fun r _ _ => r = some (.int v)) ∧ MC ym lm z z' (fun r I _ _ => r = some (.int v) ∧ I 200 19 = 0)
def PQl (a N : Nat) (z : xA) (yc : Nat) (lc : xL) (ym : Nat) (lm : xL) : Prop := ∃ z' v, WA (N + 12800) z' ∧ CC a yc lc z z' (fun r _ _ => r = some (.long v)) ∧ MC ym lm z z' (fun r I _ _ => r = some (.long v) ∧ I 200 19 = 0)
def PQd (a N : Nat) (z : xA) (yc : Nat) (lc : xL) (ym : Nat) (lm : xL) : Prop := ∃ z' v, WA (N + 12800) z' ∧ CC a yc lc z z' (fun r _ _ => r = some (.double v)) ∧ MC ym lm z z' (fun r I _ _ => r = some (.double v) ∧ I 200 19 = 0)
theorem K_le {K m : Nat} {v : Int32} {lo : Int32} (hm : m < 2147483648) (h : rg v lo (nI m) = true) (h1 : lo = 0 ∨ lo = 1) : ∃ K : Nat, K ≤ m ∧ v = nI K ∧ (lo = 1 → 1 ≤ K) := by
  have h2 := rg_T h
  rw [nI_toInt hm] at h2
  have h0 : lo.toInt = 0 ∨ lo.toInt = 1 := h1.imp (fun e => by rw [e]; rfl) (fun e => by rw [e]; rfl)
  refine ⟨v.toInt.toNat, by omega, Int32.toInt_inj.mp ?_, fun e => by rw [e] at h2; have : (1 : Int32).toInt = 1 := rfl; omega⟩
  rw [nI_toInt (by omega)]
  omega
theorem P11 (w : WA N z) (v : Int32) : PI N z 340 [(0, .ref 100), (1, .int v), (2, .ref 400)] 245 [(0, .ref 200), (1, .int v)] := by
  have bd := gn_bd w.1
  rcases pk_ix v (n := gn z.1) (by omega) with h | h | ⟨t, ht, rfl⟩
  · exact ⟨z, _, _, G_up w, CC_post (KC11a w (Or.inl h)) (fun _ _ _ e => ⟨e, fun h => absurd h (by decide)⟩), KM11a w (Or.inl h)⟩
  · exact ⟨z, _, _, G_up w, CC_post (KC11a w (Or.inr h)) (fun _ _ _ e => ⟨e, fun h => absurd h (by decide)⟩), KM11a w (Or.inr h)⟩
  · exact ⟨z, _, _, G_up w, CC_post (KC11b w ht) (fun _ _ _ e => ⟨e.1, fun _ => e.2⟩), KM11b w ht⟩
theorem P17 (w : WA N z) (v : Int32) : PI N z 343 [(0, .ref 100), (1, .int v), (2, .ref 400)] 256 [(0, .ref 200), (1, .int v)] := by
  have bd := gn_bd w.1
  rcases pk_ix v (n := gn z.1) (by omega) with h | h | ⟨t, ht, rfl⟩
  · exact ⟨z, _, _, G_up w, CC_post (KC17a w (Or.inl h)) (fun _ _ _ e => ⟨e, fun h => absurd h (by decide)⟩), KM17a w (Or.inl h)⟩
  · exact ⟨z, _, _, G_up w, CC_post (KC17a w (Or.inr h)) (fun _ _ _ e => ⟨e, fun h => absurd h (by decide)⟩), KM17a w (Or.inr h)⟩
  · exact ⟨z, _, _, G_up w, CC_post (KC17b w ht) (fun _ _ _ e => ⟨e.1, fun _ => e.2⟩), KM17b w ht⟩
theorem P14 (w : WA N z) (v : Int32) : PI N z 342 [(0, .ref 100), (1, .int v), (2, .ref 400)] 252 [(0, .ref 200), (1, .int v)] := by
  have bd := gn_bd w.1
  rcases pk_ix v (n := gn z.1) (by omega) with h | h | ⟨t, ht, rfl⟩
  · exact ⟨z, _, _, G_up w, CC_post (KC14a w (Or.inl h)) (fun _ _ _ e => ⟨e, fun h => absurd h (by decide)⟩), KM14a w (Or.inl h)⟩
  · exact ⟨z, _, _, G_up w, CC_post (KC14a w (Or.inr h)) (fun _ _ _ e => ⟨e, fun h => absurd h (by decide)⟩), KM14a w (Or.inr h)⟩
  · exact ⟨_, _, _, G14 w ht, CC_post (KC14b w ht) (fun _ _ _ e => ⟨e.1, fun _ => e.2⟩), KM14b w ht⟩
theorem P26 (w : WA N z) (v : Int32) : PI N z 348 [(0, .ref 100), (1, .int v), (2, .ref 400)] 277 [(0, .ref 200), (1, .int v)] := by
  have bd := gn_bd w.1
  rcases pk_ix v (n := gn z.1) (by omega) with h | h | ⟨t, ht, rfl⟩
  · exact ⟨z, _, _, G_up w, CC_post (KC26a w (Or.inl h)) (fun _ _ _ e => ⟨e, fun h => absurd h (by decide)⟩), KM26a w (Or.inl h)⟩
  · exact ⟨z, _, _, G_up w, CC_post (KC26a w (Or.inr h)) (fun _ _ _ e => ⟨e, fun h => absurd h (by decide)⟩), KM26a w (Or.inr h)⟩
  · by_cases hf : FRO z.1 z.2.1
    · exact ⟨_, _, _, G26 w ht, CC_post (KC26c w ht hf) (fun _ _ _ e => ⟨e.1, fun _ => e.2⟩), KM26c w ht hf⟩
    · exact ⟨z, _, _, G_up w, CC_post (KC26b w ht hf) (fun _ _ _ e => ⟨e, fun h => absurd h (by decide)⟩), KM26b w ht hf⟩
theorem P27 (w : WA N z)  : PI N z 349 [(0, .ref 100), (1, .ref 400)] 281 [(0, .ref 200)] := by
  have bd := gn_bd w.1
  by_cases hf : FRO z.1 z.2.1
  · exact ⟨_, _, _, G27 w, CC_post (KC27b w hf) (fun _ _ _ e => ⟨e.1, fun _ => e.2⟩), KM27b w hf⟩
  · exact ⟨z, _, _, G_up w, CC_post (KC27a w hf) (fun _ _ _ e => ⟨e, fun h => absurd h (by decide)⟩), KM27a w hf⟩
theorem P28 (w : WA N z)  : PI N z 350 [(0, .ref 100), (1, .ref 400)] 290 [(0, .ref 200)] := by
  have bd := gn_bd w.1
  by_cases hk : stK z.2.1 < 10000
  · exact ⟨_, _, _, G28 w hk, CC_post (KC28b w hk) (fun _ _ _ e => ⟨e.1, fun _ => e.2⟩), KM28b w hk⟩
  · have hk2 : stK z.2.1 = 10000 := by have := w.2.1.2.2.1; omega
    exact ⟨z, _, _, G_up w, CC_post (KC28a w hk2) (fun _ _ _ e => ⟨e, fun h => absurd h (by decide)⟩), KM28a w hk2⟩
theorem P63 (w : WA N z)  : PI N z 374 [(0, .ref 100), (1, .ref 400)] 333 [(0, .ref 200)] := by
  have bd := gn_bd w.1
  rcases hs : z.2.2.1 with _ | y
  · exact ⟨z, _, _, G_up w, CC_post (KC63a w hs) (fun _ _ _ e => ⟨e, fun h => absurd h (by decide)⟩), KM63a w hs⟩
  · exact ⟨_, _, _, G63 w hs, CC_post (KC63b w hs) (fun _ _ _ e => ⟨e.1, fun _ => e.2⟩), KM63b w hs⟩
theorem P34 (w : WA N z)  : PI N z 353 [(0, .ref 100), (1, .ref 400)] 300 [(0, .ref 200)] := by
  have bd := gn_bd w.1
  by_cases hn : gn z.1 ≤ 16
  · exact ⟨z, _, _, G_up w, CC_post (KC34b w hn) (fun _ _ _ e => ⟨e.1, fun _ => e.2⟩), KM34b w hn⟩
  · exact ⟨z, _, _, G_up w, CC_post (KC34a w hn) (fun _ _ _ e => ⟨e, fun h => absurd h (by decide)⟩), KM34a w hn⟩
theorem P37 (w : WA N z)  : PI N z 356 [(0, .ref 100), (1, .ref 400)] 308 [(0, .ref 200)] := by
  have bd := gn_bd w.1
  by_cases hn : gn z.1 ≤ 16
  · exact ⟨z, _, _, G_up w, CC_post (KC37b w hn) (fun _ _ _ e => ⟨e.1, fun _ => e.2⟩), KM37b w hn⟩
  · exact ⟨z, _, _, G_up w, CC_post (KC37a w hn) (fun _ _ _ e => ⟨e, fun h => absurd h (by decide)⟩), KM37a w hn⟩
theorem P38 (w : WA N z)  : PI N z 357 [(0, .ref 100), (1, .ref 400)] 309 [(0, .ref 200)] := by
  have bd := gn_bd w.1
  by_cases hn : gn z.1 ≤ 16
  · exact ⟨z, _, _, G_up w, CC_post (KC38b w hn) (fun _ _ _ e => ⟨e.1, fun _ => e.2⟩), KM38b w hn⟩
  · exact ⟨z, _, _, G_up w, CC_post (KC38a w hn) (fun _ _ _ e => ⟨e, fun h => absurd h (by decide)⟩), KM38a w hn⟩
theorem P40 (w : WA N z)  : PI N z 359 [(0, .ref 100), (1, .ref 400)] 311 [(0, .ref 200)] := by
  have bd := gn_bd w.1
  by_cases hn : gn z.1 ≤ 16
  · exact ⟨z, _, _, G_up w, CC_post (KC40b w hn) (fun _ _ _ e => ⟨e.1, fun _ => e.2⟩), KM40b w hn⟩
  · exact ⟨z, _, _, G_up w, CC_post (KC40a w hn) (fun _ _ _ e => ⟨e, fun h => absurd h (by decide)⟩), KM40a w hn⟩
theorem P13 (w : WA N z) (v : Int64) : PI N z 341 [(0, .ref 100), (1, .long v), (3, .ref 400)] 248 [(0, .ref 200), (1, .long v)] := by
  have bd := gn_bd w.1
  obtain ⟨c, hc, rfl⟩ := q_of v
  by_cases hx : c < 2 ^ gn z.1
  · exact ⟨_, _, _, G13 w hx, CC_post (KC13b w hc hx) (fun _ _ _ e => ⟨e.1, fun _ => e.2⟩), KM13b w hc hx⟩
  · exact ⟨z, _, _, G_up w, CC_post (KC13a w hc hx) (fun _ _ _ e => ⟨e, fun h => absurd h (by decide)⟩), KM13a w hc hx⟩
theorem P47 (w : WA N z) (v : Int64) : PI N z 366 [(0, .ref 100), (1, .long v), (3, .ref 400)] 267 [(0, .ref 200), (1, .long v)] := by
  have bd := gn_bd w.1
  obtain ⟨c, hc, rfl⟩ := q_of v
  by_cases hx : c < 2 ^ gn z.1
  · exact ⟨z, _, _, G_up w, CC_post (KC47b w hc hx) (fun _ _ _ e => ⟨e.1, fun _ => e.2⟩), KM47b w hc hx⟩
  · exact ⟨z, _, _, G_up w, CC_post (KC47a w hc hx) (fun _ _ _ e => ⟨e, fun h => absurd h (by decide)⟩), KM47a w hc hx⟩
theorem P49 (w : WA N z) (v : Int64) : PI N z 367 [(0, .ref 100), (1, .long v), (3, .ref 400)] 261 [(0, .ref 200), (1, .long v)] := by
  have bd := gn_bd w.1
  obtain ⟨c, hc, rfl⟩ := q_of v
  by_cases hx : c < 2 ^ gn z.1
  · exact ⟨z, _, _, G_up w, CC_post (KC49b w hc hx) (fun _ _ _ e => ⟨e.1, fun _ => e.2⟩), KM49b w hc hx⟩
  · exact ⟨z, _, _, G_up w, CC_post (KC49a w hc hx) (fun _ _ _ e => ⟨e, fun h => absurd h (by decide)⟩), KM49a w hc hx⟩
theorem P9 (w : WA N z) (v : Int32) : PI N z 338 [(0, .ref 100), (1, .int v), (2, .ref 400)] 243 [(0, .ref 200), (1, .int v)] := by
  have bd := gn_bd w.1
  by_cases hv : rg v (-3) 3 = true
  · exact ⟨_, _, _, G9 w hv, CC_post (KC9b w hv) (fun _ _ _ e => ⟨e.1, fun _ => e.2⟩), KM9b w hv⟩
  · exact ⟨z, _, _, G_up w, CC_post (KC9a w hv) (fun _ _ _ e => ⟨e, fun h => absurd h (by decide)⟩), KM9a w hv⟩
theorem P10 (w : WA N z) (v : Int32) : PI N z 339 [(0, .ref 100), (1, .int v), (2, .ref 400)] 244 [(0, .ref 200), (1, .int v)] := by
  have bd := gn_bd w.1
  by_cases hv : rg v (0) 2 = true
  · exact ⟨_, _, _, G10 w hv, CC_post (KC10b w hv) (fun _ _ _ e => ⟨e.1, fun _ => e.2⟩), KM10b w hv⟩
  · exact ⟨z, _, _, G_up w, CC_post (KC10a w hv) (fun _ _ _ e => ⟨e, fun h => absurd h (by decide)⟩), KM10a w hv⟩
theorem P23 (w : WA N z) (v : Int32) : PI N z 345 [(0, .ref 100), (1, .int v), (2, .ref 400)] 270 [(0, .ref 200), (1, .int v)] := by
  have bd := gn_bd w.1
  rcases pk_ix v (n := gn z.1) (by omega) with h | h | ⟨t, ht, rfl⟩
  · exact ⟨z, _, _, G_up w, CC_post (KC23a w (Or.inl h)) (fun _ _ _ e => ⟨e, fun h => absurd h (by decide)⟩), KM23a w (Or.inl h)⟩
  · exact ⟨z, _, _, G_up w, CC_post (KC23a w (Or.inr h)) (fun _ _ _ e => ⟨e, fun h => absurd h (by decide)⟩), KM23a w (Or.inr h)⟩
  · cases hf : fS z.1 z.2.1 t (stZ z.2.1)
    · exact ⟨_, _, _, G23 w ht, CC_post (KC23c w ht hf) (fun _ _ _ e => ⟨e.1, fun _ => e.2.trans rfl⟩), KM23c w ht hf⟩
    · exact ⟨_, _, _, G23 w ht, CC_post (KC23b w ht hf) (fun _ _ _ e => ⟨e.1, fun _ => e.2.trans rfl⟩), KM23b w ht hf⟩
theorem P25 (w : WA N z) (v : Int32) : PI N z 347 [(0, .ref 100), (1, .int v), (2, .ref 400)] 275 [(0, .ref 200), (1, .int v)] := by
  have bd := gn_bd w.1
  by_cases hv : rg v 1 200 = true
  · obtain ⟨K, hK, rfl, -⟩ := K_le (K := 0) (m := 200) (by decide) (show rg v 1 (nI 200) = true from hv) (Or.inr rfl)
    exact ⟨_, _, _, G25 w hK, CC_post (KC25b w (by omega) hv) (fun _ _ _ e => ⟨e.1, fun _ => e.2⟩), KM25b w (by omega) hv⟩
  · exact ⟨z, _, _, G_up w, CC_post (KC25a w hv) (fun _ _ _ e => ⟨e, fun h => absurd h (by decide)⟩), KM25a w hv⟩
theorem P24 (w : WA N z) (v : Int32) : PI N z 346 [(0, .ref 100), (1, .int v), (2, .ref 400)] 274 [(0, .ref 200), (1, .int v)] := by
  have bd := gn_bd w.1
  by_cases hv : rg v 1 1000 = true
  · obtain ⟨K, hK, rfl, -⟩ := K_le (K := 0) (m := 1000) (by decide) (show rg v 1 (nI 1000) = true from hv) (Or.inr rfl)
    exact ⟨_, _, _, G24 w hK, CC_post (KC24b w (by omega) hv) (fun _ _ _ e => ⟨e.1, fun _ => e.2⟩), KM24b w (by omega) hv⟩
  · exact ⟨z, _, _, G_up w, CC_post (KC24a w hv) (fun _ _ _ e => ⟨e, fun h => absurd h (by decide)⟩), KM24a w hv⟩
theorem P29 (w : WA N z) (v : Int32) : PI N z 351 [(0, .ref 100), (1, .int v), (2, .ref 400)] 292 [(0, .ref 200), (1, .int v)] := by
  have bd := gn_bd w.1
  by_cases hv : rg v 1 100 = true
  · obtain ⟨K, hK, rfl, h1⟩ := K_le (K := 0) (m := 100) (by decide) (show rg v 1 (nI 100) = true from hv) (Or.inr rfl)
    by_cases hk : stK z.2.1 + K ≤ 10000
    · exact ⟨_, _, _, G29 w hK hk, CC_post (KC29c w (h1 rfl) hK hv hk) (fun _ _ _ e => ⟨e.1, fun _ => e.2⟩), KM29c w (h1 rfl) hK hv hk⟩
    · exact ⟨z, _, _, G_up w, CC_post (KC29b w hK hv (by omega)) (fun _ _ _ e => ⟨e, fun h => absurd h (by decide)⟩), KM29b w hK hv (by omega)⟩
  · exact ⟨z, _, _, G_up w, CC_post (KC29a w hv) (fun _ _ _ e => ⟨e, fun h => absurd h (by decide)⟩), KM29a w hv⟩
theorem P30 (w : WA N z) (v : Int32) : PDb N z 352 [(0, .ref 100), (1, .int v), (2, .ref 401)] 293 [(0, .ref 200), (1, .int v)] := by
  have bd := gn_bd w.1
  by_cases hv : rg v 0 3 = true
  · obtain ⟨K, hK, rfl, -⟩ := K_le (K := 0) (m := 3) (by decide) (show rg v 0 (nI 3) = true from hv) (Or.inl rfl)
    exact ⟨z, _, _, G_up w, CC_post (KC30b w (by omega)) (fun _ _ _ e => ⟨e.1, fun _ => e.2⟩), KM30b w (by omega)⟩
  · exact ⟨z, _, _, G_up w, CC_post (KC30a w hv) (fun _ _ _ e => ⟨e, fun h => absurd h (by decide)⟩), KM30a w hv⟩
theorem P50 (w : WA N z) (v : Int32) : PDb N z 368 [(0, .ref 100), (1, .int v), (2, .ref 401)] 265 [(0, .ref 200), (1, .int v)] := by
  have bd := gn_bd w.1
  rcases pk_ix v (n := gn z.1) (by omega) with h | h | ⟨t, ht, rfl⟩
  · exact ⟨z, _, _, G_up w, CC_post (KC50a w (Or.inl h)) (fun _ _ _ e => ⟨e, fun h => absurd h (by decide)⟩), KM50a w (Or.inl h)⟩
  · exact ⟨z, _, _, G_up w, CC_post (KC50a w (Or.inr h)) (fun _ _ _ e => ⟨e, fun h => absurd h (by decide)⟩), KM50a w (Or.inr h)⟩
  · exact ⟨z, _, _, G_up w, CC_post (KC50b w ht) (fun _ _ _ e => ⟨e.1, fun _ => e.2⟩), KM50b w ht⟩
theorem P7 (w : WA N z) (v u : Int32) : PI N z 336 [(0, .ref 100), (1, .int v), (2, .int u), (3, .ref 400)] 239 [(0, .ref 200), (1, .int v), (2, .int u)] := by
  have bd := gn_bd w.1
  rcases pk_ix v (n := gm z.1) (by omega) with h | h | ⟨t, ht, rfl⟩
  · exact ⟨z, _, _, G_up w, CC_post (KC7a w (Or.inl h)) (fun _ _ _ e => ⟨e, fun h => absurd h (by decide)⟩), KM7a w (Or.inl h)⟩
  · exact ⟨z, _, _, G_up w, CC_post (KC7a w (Or.inr h)) (fun _ _ _ e => ⟨e, fun h => absurd h (by decide)⟩), KM7a w (Or.inr h)⟩
  · by_cases hu : rg u (-3) 3 = true
    · exact ⟨_, _, _, G7 w hu, CC_post (KC7c w ht hu) (fun _ _ _ e => ⟨e.1, fun _ => e.2⟩), KM7c w ht hu⟩
    · exact ⟨z, _, _, G_up w, CC_post (KC7b w ht hu) (fun _ _ _ e => ⟨e, fun h => absurd h (by decide)⟩), KM7b w ht hu⟩
theorem P8 (w : WA N z) (v u : Int32) : PI N z 337 [(0, .ref 100), (1, .int v), (2, .int u), (3, .ref 400)] 241 [(0, .ref 200), (1, .int v), (2, .int u)] := by
  have bd := gn_bd w.1
  by_cases hv : rt v u = true
  · obtain ⟨a, c, hA, rfl, rfl⟩ := rt_AB hv
    exact ⟨_, _, _, G8 w hA, CC_post (KC8b w hv) (fun _ _ _ e => ⟨e.1, fun _ => e.2⟩), KM8b w hv⟩
  · exact ⟨z, _, _, G_up w, CC_post (KC8a w hv) (fun _ _ _ e => ⟨e, fun h => absurd h (by decide)⟩), KM8a w hv⟩
theorem P36 (w : WA N z) (v u : Int32) : PI N z 355 [(0, .ref 100), (1, .int v), (2, .int u), (3, .ref 400)] 306 [(0, .ref 200), (1, .int v), (2, .int u)] := by
  have bd := gn_bd w.1
  by_cases hn : gn z.1 ≤ 16
  · exact ⟨z, _, _, G_up w, CC_post (KC36b w hn) (fun _ _ _ e => ⟨e.1, fun _ => e.2⟩), KM36b w hn⟩
  · exact ⟨z, _, _, G_up w, CC_post (KC36a w hn) (fun _ _ _ e => ⟨e, fun h => absurd h (by decide)⟩), KM36a w hn⟩
theorem P51 (w : WA N z) (v : Int32) : PI N z 369 [(0, .ref 100), (1, .int v), (2, .ref 400)] 307 [(0, .ref 200), (1, .int v)] := by
  have bd := gn_bd w.1
  by_cases hn : gn z.1 ≤ 16
  · exact ⟨z, _, _, G_up w, CC_post (KC51b w hn) (fun _ _ _ e => ⟨e.1, fun _ => e.2⟩), KM51b w hn⟩
  · exact ⟨z, _, _, G_up w, CC_post (KC51a w hn) (fun _ _ _ e => ⟨e, fun h => absurd h (by decide)⟩), KM51a w hn⟩
theorem P56 (w : WA N z) (v u : Int32) : PI N z 372 [(0, .ref 100), (1, .int v), (2, .int u), (3, .ref 400)] 262 [(0, .ref 200), (1, .int v), (2, .int u)] := by
  have bd := gn_bd w.1
  rcases pk_ix v (n := gn z.1) (by omega) with h | h | ⟨t, ht, rfl⟩
  · exact ⟨z, _, _, G_up w, CC_post (KC56a w (Or.inl h)) (fun _ _ _ e => ⟨e, fun h => absurd h (by decide)⟩), KM56a w (Or.inl h)⟩
  · exact ⟨z, _, _, G_up w, CC_post (KC56a w (Or.inr h)) (fun _ _ _ e => ⟨e, fun h => absurd h (by decide)⟩), KM56a w (Or.inr h)⟩
  · rcases pk_ix u (n := gn z.1) (by omega) with h | h | ⟨q, hq, rfl⟩
    · exact ⟨z, _, _, G_up w, CC_post (KC56b w ht (Or.inl h)) (fun _ _ _ e => ⟨e, fun h => absurd h (by decide)⟩), KM56b w ht (Or.inl h)⟩
    · exact ⟨z, _, _, G_up w, CC_post (KC56b w ht (Or.inr h)) (fun _ _ _ e => ⟨e, fun h => absurd h (by decide)⟩), KM56b w ht (Or.inr h)⟩
    · exact ⟨z, _, _, G_up w, CC_post (KC56c w ht hq) (fun _ _ _ e => ⟨e.1, fun _ => e.2⟩), KM56c w ht hq⟩
theorem P41 (w : WA N z) (u v y : Int32) : PDb N z 360 [(0, .ref 100), (1, .int u), (2, .int v), (3, .int y), (4, .ref 401)] 314 [(0, .ref 200), (1, .int u), (2, .int v), (3, .int y)] := by
  have bd := gn_bd w.1
  by_cases hu : rg u 0 4 = true
  · by_cases hv : rt v y = true
    · obtain ⟨a, c, hA, rfl, rfl⟩ := rt_AB hv
      by_cases hn : gn z.1 ≤ 16
      · exact ⟨z, _, _, G_up w, CC_post (KC41d w hn hu hA hv) (fun _ _ _ e => ⟨e.1, fun _ => e.2⟩), KM41d w hn hu hA hv⟩
      · exact ⟨z, _, _, G_up w, CC_post (KC41c w hn hu hA hv) (fun _ _ _ e => ⟨e, fun h => absurd h (by decide)⟩), KM41c w hn hu hA hv⟩
    · exact ⟨z, _, _, G_up w, CC_post (KC41b w hu hv) (fun _ _ _ e => ⟨e, fun h => absurd h (by decide)⟩), KM41b w hu hv⟩
  · exact ⟨z, _, _, G_up w, CC_post (KC41a w hu) (fun _ _ _ e => ⟨e, fun h => absurd h (by decide)⟩), KM41a w hu⟩
theorem P42 (w : WA N z) (u v y : Int32) : PDb N z 361 [(0, .ref 100), (1, .int u), (2, .int v), (3, .int y), (4, .ref 401)] 318 [(0, .ref 200), (1, .int u), (2, .int v), (3, .int y)] := by
  have bd := gn_bd w.1
  by_cases hu : rg u 0 2 = true
  · by_cases hv : rt v y = true
    · obtain ⟨a, c, hA, rfl, rfl⟩ := rt_AB hv
      by_cases hn : gn z.1 ≤ 16
      · exact ⟨z, _, _, G_up w, CC_post (KC42d w hn hu hA hv) (fun _ _ _ e => ⟨e.1, fun _ => e.2⟩), KM42d w hn hu hA hv⟩
      · exact ⟨z, _, _, G_up w, CC_post (KC42c w hn hu hA hv) (fun _ _ _ e => ⟨e, fun h => absurd h (by decide)⟩), KM42c w hn hu hA hv⟩
    · exact ⟨z, _, _, G_up w, CC_post (KC42b w hu hv) (fun _ _ _ e => ⟨e, fun h => absurd h (by decide)⟩), KM42b w hu hv⟩
  · exact ⟨z, _, _, G_up w, CC_post (KC42a w hu) (fun _ _ _ e => ⟨e, fun h => absurd h (by decide)⟩), KM42a w hu⟩
theorem P45 (w : WA N z) (u v : Int32) : PI N z 364 [(0, .ref 100), (1, .int u), (2, .int v), (3, .ref 400)] 322 [(0, .ref 200), (1, .int u), (2, .int v)] := by
  have bd := gn_bd w.1
  by_cases hu : rg u 0 2 = true
  · by_cases hv : rg v 2 30 = true
    · obtain ⟨y, y1, y2, rfl⟩ := rg_y hv
      by_cases hn : gn z.1 ≤ 16
      · exact ⟨z, _, _, G_up w, CC_post (KC45d w hn hu hv y1 y2) (fun _ _ _ e => ⟨e.1, fun _ => e.2⟩), KM45d w hn hu hv y1 y2⟩
      · exact ⟨z, _, _, G_up w, CC_post (KC45c w hn hu hv y1 y2) (fun _ _ _ e => ⟨e, fun h => absurd h (by decide)⟩), KM45c w hn hu hv y1 y2⟩
    · exact ⟨z, _, _, G_up w, CC_post (KC45b w hu hv) (fun _ _ _ e => ⟨e, fun h => absurd h (by decide)⟩), KM45b w hu hv⟩
  · exact ⟨z, _, _, G_up w, CC_post (KC45a w hu) (fun _ _ _ e => ⟨e, fun h => absurd h (by decide)⟩), KM45a w hu⟩
theorem P60 (w : WA N z) (u v : Int32) : PI N z 373 [(0, .ref 100), (1, .int u), (2, .int v), (3, .ref 400)] 328 [(0, .ref 200), (1, .int u), (2, .int v)] := by
  have bd := gn_bd w.1
  by_cases hu : rg u 0 2 = true
  · by_cases hv : rg v 2 30 = true
    · obtain ⟨y, y1, y2, rfl⟩ := rg_y hv
      by_cases hn : gn z.1 ≤ 16
      · exact ⟨z, _, _, G_up w, CC_post (KC60d w hn hu hv y1 y2) (fun _ _ _ e => ⟨e.1, fun _ => e.2⟩), KM60d w hn hu hv y1 y2⟩
      · exact ⟨z, _, _, G_up w, CC_post (KC60c w hn hu hv y1 y2) (fun _ _ _ e => ⟨e, fun h => absurd h (by decide)⟩), KM60c w hn hu hv y1 y2⟩
    · exact ⟨z, _, _, G_up w, CC_post (KC60b w hu hv) (fun _ _ _ e => ⟨e, fun h => absurd h (by decide)⟩), KM60b w hu hv⟩
  · exact ⟨z, _, _, G_up w, CC_post (KC60a w hu) (fun _ _ _ e => ⟨e, fun h => absurd h (by decide)⟩), KM60a w hu⟩
theorem P3 (w : WA N z)  : PQn 0 N z 122 [(0, .ref 100)] 231 [(0, .ref 200)] := by
  have bd := gn_bd w.1
  exact ⟨z, _, G_up w, KC3 w, KM3 w⟩
theorem P4 (w : WA N z)  : PQn 0 N z 123 [(0, .ref 100)] 232 [(0, .ref 200)] := by
  have bd := gn_bd w.1
  exact ⟨z, _, G_up w, KC4 w, KM4 w⟩
theorem P12 (w : WA N z)  : PQl 0 N z 124 [(0, .ref 100)] 247 [(0, .ref 200)] := by
  have bd := gn_bd w.1
  exact ⟨z, _, G_up w, KC12 w, KM12 w⟩
theorem P15 (w : WA N z)  : PQn 0 N z 126 [(0, .ref 100)] 254 [(0, .ref 200)] := by
  have bd := gn_bd w.1
  exact ⟨z, _, G_up w, KC15 w, KM15 w⟩
theorem P16 (w : WA N z)  : PQn 0 N z 127 [(0, .ref 100)] 255 [(0, .ref 200)] := by
  have bd := gn_bd w.1
  exact ⟨z, _, G_up w, KC16 w, KM16 w⟩
theorem P18 (w : WA N z)  : PQn 0 N z 128 [(0, .ref 100)] 258 [(0, .ref 200)] := by
  have bd := gn_bd w.1
  exact ⟨z, _, G_up w, KC18 w, KM18 w⟩
theorem P19 (w : WA N z)  : PQn 0 N z 129 [(0, .ref 100)] 259 [(0, .ref 200)] := by
  have bd := gn_bd w.1
  exact ⟨z, _, G_up w, KC19 w, KM19 w⟩
theorem P52 (w : WA N z)  : PQn 0 N z 130 [(0, .ref 100)] 260 [(0, .ref 200)] := by
  have bd := gn_bd w.1
  exact ⟨z, _, G_up w, KC52 w, KM52 w⟩
theorem P33 (w : WA N z)  : PQn 0 N z 142 [(0, .ref 100)] 299 [(0, .ref 200)] := by
  have bd := gn_bd w.1
  exact ⟨_, _, G33 w, KC33 w, KM33 w⟩
theorem P48 (w : WA N z)  : PQn 0 N z 125 [(0, .ref 100)] 253 [(0, .ref 200)] := by
  have bd := gn_bd w.1
  exact ⟨_, _, G48 w, KC48 w, KM48 w⟩
theorem P59 (w : WA N z)  : PQn 1 N z 143 [(0, .ref 100)] 326 [(0, .ref 200)] := by
  have bd := gn_bd w.1
  exact ⟨z, _, G_up w, KC59 w, KM59 w⟩
theorem P62 (w : WA N z)  : PQn 1 N z 145 [(0, .ref 100)] 331 [(0, .ref 200)] := by
  have bd := gn_bd w.1
  exact ⟨_, _, G62 w, KC62 w, KM62 w⟩
theorem P31 (w : WA N z) (v : Int32) : PQn 0 N z 140 [(0, .ref 100), (1, .int v)] 297 [(0, .ref 200), (1, .int v)] := by
  have bd := gn_bd w.1
  exact ⟨z, _, G_up w, KC31 w, KM31 w⟩
theorem P32 (w : WA N z)  : PQn 1 N z 141 [(0, .ref 100)] 298 [(0, .ref 200)] := by
  have bd := gn_bd w.1
  by_cases hk : stK z.2.1 = 0
  · exact ⟨z, 0, G_up w, KC32a w hk, MC_post (KM32 w) (fun _ _ _ _ e => ⟨by rw [e.1, hk]; rfl, e.2⟩)⟩
  · exact ⟨z, _, G_up w, KC32b w (by omega), KM32 w⟩
theorem P54 (w : WA N z) (v : Int64) : PLg N z 371 [(0, .ref 100), (1, .long v), (3, .ref 400)] 269 [(0, .ref 200), (1, .long v)] := by
  have bd := gn_bd w.1
  obtain ⟨c, hc, rfl⟩ := q_of v
  by_cases hx : c < 2 ^ gn z.1
  · exact ⟨z, _, _, G_up w, CC_post (KC54b w hc hx) (fun _ _ _ e => ⟨e.1, fun _ => e.2⟩), KM54b w hc hx⟩
  · exact ⟨z, _, _, G_up w, CC_post (KC54a w hc hx) (fun _ _ _ e => ⟨e, fun h => absurd h (by decide)⟩), KM54a w hc hx⟩
theorem P43 (w : WA N z) (l : Int64) (v y : Int32) : PDb N z 362 [(0, .ref 100), (1, .long l), (3, .int v), (4, .int y), (5, .ref 401)] 320 [(0, .ref 200), (1, .long l), (3, .int v), (4, .int y)] := by
  have bd := gn_bd w.1
  obtain ⟨c, hc, rfl⟩ := q_of l
  by_cases hx : c < 2 ^ gn z.1
  · by_cases hv : rt v y = true
    · obtain ⟨a, d, hA, rfl, rfl⟩ := rt_AB hv
      by_cases hn : gn z.1 ≤ 16
      · exact ⟨z, _, _, G_up w, CC_post (KC43d w hn hc hx hA hv) (fun _ _ _ e => ⟨e.1, fun _ => e.2⟩), KM43d w hn hc hx hA hv⟩
      · exact ⟨z, _, _, G_up w, CC_post (KC43c w hn hc hx hA hv) (fun _ _ _ e => ⟨e, fun h => absurd h (by decide)⟩), KM43c w hn hc hx hA hv⟩
    · exact ⟨z, _, _, G_up w, CC_post (KC43b w hc hx hv) (fun _ _ _ e => ⟨e, fun h => absurd h (by decide)⟩), KM43b w hc hx hv⟩
  · exact ⟨z, _, _, G_up w, CC_post (KC43a w hc hx) (fun _ _ _ e => ⟨e, fun h => absurd h (by decide)⟩), KM43a w hc hx⟩
theorem P44 (w : WA N z) (v u p q : Int32) : PDb N z 363 [(0, .ref 100), (1, .int v), (2, .int u), (3, .int p), (4, .int q), (5, .ref 401)] 321 [(0, .ref 200), (1, .int v), (2, .int u), (3, .int p), (4, .int q)] := by
  have bd := gn_bd w.1
  rcases pk_ix v (n := gn z.1) (by omega) with h | h | ⟨s, hs, rfl⟩
  · exact ⟨z, _, _, G_up w, CC_post (KC44a w (Or.inl h)) (fun _ _ _ e => ⟨e, fun h => absurd h (by decide)⟩), KM44a w (Or.inl h)⟩
  · exact ⟨z, _, _, G_up w, CC_post (KC44a w (Or.inr h)) (fun _ _ _ e => ⟨e, fun h => absurd h (by decide)⟩), KM44a w (Or.inr h)⟩
  · rcases pk_ix u (n := gn z.1) (by omega) with h | h | ⟨t, ht, rfl⟩
    · exact ⟨z, _, _, G_up w, CC_post (KC44b w hs (Or.inl h)) (fun _ _ _ e => ⟨e, fun h => absurd h (by decide)⟩), KM44b w hs (Or.inl h)⟩
    · exact ⟨z, _, _, G_up w, CC_post (KC44b w hs (Or.inr h)) (fun _ _ _ e => ⟨e, fun h => absurd h (by decide)⟩), KM44b w hs (Or.inr h)⟩
    · by_cases hr : rt p q = true
      · obtain ⟨a, c, hA, rfl, rfl⟩ := rt_AB hr
        by_cases hn : gn z.1 ≤ 16
        · exact ⟨z, _, _, G_up w, CC_post (KC44e w hn hs ht hA hr) (fun _ _ _ e => ⟨e.1, fun _ => e.2⟩), KM44e w hn hs ht hA hr⟩
        · exact ⟨z, _, _, G_up w, CC_post (KC44d w hn hs ht hA hr) (fun _ _ _ e => ⟨e, fun h => absurd h (by decide)⟩), KM44d w hn hs ht hA hr⟩
      · exact ⟨z, _, _, G_up w, CC_post (KC44c w hs ht hr) (fun _ _ _ e => ⟨e, fun h => absurd h (by decide)⟩), KM44c w hs ht hr⟩
theorem P53 (w : WA N z) (l v : Int64) : PI N z 370 [(0, .ref 100), (1, .long l), (3, .long v), (5, .ref 400)] 323 [(0, .ref 200), (1, .long l), (3, .long v)] := by
  have bd := gn_bd w.1
  obtain ⟨c, hc, rfl⟩ := q_of l
  obtain ⟨d, hd, rfl⟩ := q_of v
  by_cases hx : c < 2 ^ gn z.1
  · by_cases hy : d < 2 ^ gn z.1
    · by_cases hn : gn z.1 ≤ 16
      · by_cases hb : ∃ h, bar (eN (eG z.1 z.2.1)) (gn z.1) c d h
        · obtain ⟨h0, hb⟩ := hb
          exact ⟨z, 0, nI h0 - 144, G_up w, CC_post (KC53d w hn hc hd hx hy) (fun _ _ _ e => ⟨e.1, fun _ => by obtain ⟨h, h1, h2⟩ := e.2; rw [bar_one hb h1]; exact h2⟩), MC_post (KM53d w hn hc hd hx hy) (fun _ _ _ _ e => ⟨by obtain ⟨h, h1, h2⟩ := e.1; rw [bar_one hb h1]; exact h2, e.2⟩)⟩
        · exact ⟨z, 0, 0, G_up w, CC_post (KC53d w hn hc hd hx hy) (fun _ _ _ e => by obtain ⟨h, h1, -⟩ := e.2; exact absurd ⟨h, h1⟩ hb), MC_post (KM53d w hn hc hd hx hy) (fun _ _ _ _ e => by obtain ⟨h, h1, -⟩ := e.1; exact absurd ⟨h, h1⟩ hb)⟩
      · exact ⟨z, _, _, G_up w, CC_post (KC53c w hn hc hd hx hy) (fun _ _ _ e => ⟨e, fun h => absurd h (by decide)⟩), KM53c w hn hc hd hx hy⟩
    · exact ⟨z, _, _, G_up w, CC_post (KC53b w hc hd hx hy) (fun _ _ _ e => ⟨e, fun h => absurd h (by decide)⟩), KM53b w hc hd hx hy⟩
  · exact ⟨z, _, _, G_up w, CC_post (KC53a w hc hd hx) (fun _ _ _ e => ⟨e, fun h => absurd h (by decide)⟩), KM53a w hc hd hx⟩
theorem P0 (w : WA N z) (v u x y t : Int32) : PQn 0 N z 118 [(0, .ref 100), (1, .int v), (2, .int u), (3, .int x), (4, .int y), (5, .int t)] 202 [(0, .ref 200), (1, .int v), (2, .int u), (3, .int x), (4, .int y), (5, .int t)] := by
  have bd := gn_bd w.1
  by_cases hk : z.2.2.2.1 ≤ 580
  · exact ⟨_, _, G0 w hk, KC0b w hk, KM0b w hk⟩
  · exact ⟨z, _, G_up w, KC0a w hk, KM0a w hk⟩
theorem P1 (w : WA N z) (v : Int32) : PQn 0 N z 120 [(0, .ref 100), (1, .int v)] 204 [(0, .ref 200), (1, .int v)] := by
  have bd := gn_bd w.1
  have k6 := w.2.2.2.1
  by_cases hv : v < 0 ∨ nI z.2.2.2.1 < v
  · exact ⟨z, _, G_up w, KC1a w hv, KM1a w hv⟩
  · rcases pk_ix v (n := z.2.2.2.1 + 1) (by omega) with h | h | ⟨t, ht, rfl⟩
    · exact absurd (Or.inl h) hv
    · refine absurd (Or.inr ?_) hv
      have a := Int32.le_iff_toInt_le.mp h
      rw [nI_toInt (by omega)] at a
      exact Int32.lt_iff_toInt_lt.mpr (by rw [nI_toInt (by omega)]; omega)
    · exact ⟨_, _, G1 w (by omega), KC1b w (by omega), KM1b w (by omega)⟩
theorem P5 (w : WA N z) (v : Int32) : PI N z 334 [(0, .ref 100), (1, .int v), (2, .ref 400)] 233 [(0, .ref 200), (1, .int v)] := by
  have bd := gn_bd w.1
  rcases pk_ix v (n := 11) (by omega) with h | h | ⟨t, ht, rfl⟩
  · exact ⟨z, _, _, G_up w, CC_post (KC5_no w (Or.inl h)) (fun _ _ _ e => ⟨e, fun h => absurd h (by decide)⟩), KM5_no w (Or.inl h)⟩
  · exact ⟨z, _, _, G_up w, CC_post (KC5_no w (Or.inr h)) (fun _ _ _ e => ⟨e, fun h => absurd h (by decide)⟩), KM5_no w (Or.inr h)⟩
  · rcases (show t = 0 ∨ t = 1 ∨ t = 2 ∨ t = 3 ∨ t = 4 ∨ t = 5 ∨ t = 6 ∨ t = 7 ∨ t = 8 ∨ t = 9 ∨ t = 10 by omega) with rfl | rfl | rfl | rfl | rfl | rfl | rfl | rfl | rfl | rfl | rfl
    · exact ⟨z, _, _, G_up w, CC_post (KC5_0 w) (fun _ _ _ e => ⟨e.1, fun _ => e.2⟩), KM5_0 w⟩
    · exact ⟨z, _, _, G_up w, CC_post (KC5_1 w) (fun _ _ _ e => ⟨e.1, fun _ => e.2⟩), KM5_1 w⟩
    · exact ⟨z, _, _, G_up w, CC_post (KC5_2 w) (fun _ _ _ e => ⟨e.1, fun _ => e.2⟩), KM5_2 w⟩
    · exact ⟨z, _, _, G_up w, CC_post (KC5_3 w) (fun _ _ _ e => ⟨e.1, fun _ => e.2⟩), KM5_3 w⟩
    · exact ⟨z, _, _, G_up w, CC_post (KC5_4 w) (fun _ _ _ e => ⟨e.1, fun _ => e.2⟩), KM5_4 w⟩
    · exact ⟨z, _, _, G_up w, CC_post (KC5_5 w) (fun _ _ _ e => ⟨e.1, fun _ => e.2⟩), KM5_5 w⟩
    · exact ⟨z, _, _, G_up w, CC_post (KC5_6 w) (fun _ _ _ e => ⟨e.1, fun _ => e.2⟩), KM5_6 w⟩
    · exact ⟨z, _, _, G_up w, CC_post (KC5_7 w) (fun _ _ _ e => ⟨e.1, fun _ => e.2⟩), KM5_7 w⟩
    · exact ⟨z, _, _, G_up w, CC_post (KC5_8 w) (fun _ _ _ e => ⟨e.1, fun _ => e.2⟩), KM5_8 w⟩
    · exact ⟨z, _, _, G_up w, CC_post (KC5_9 w) (fun _ _ _ e => ⟨e.1, fun _ => e.2⟩), KM5_9 w⟩
    · exact ⟨z, _, _, G_up w, CC_post (KC5_10 w) (fun _ _ _ e => ⟨e.1, fun _ => e.2⟩), KM5_10 w⟩
theorem P6 (w : WA N z) (v u : Int32) : PI N z 335 [(0, .ref 100), (1, .int v), (2, .int u), (3, .ref 400)] 235 [(0, .ref 200), (1, .int v), (2, .int u)] := by
  have bd := gn_bd w.1
  rcases pk_ix v (n := gm z.1) (by omega) with h | h | ⟨t, ht, rfl⟩
  · exact ⟨z, _, _, G_up w, CC_post (KC6a w (Or.inl h)) (fun _ _ _ e => ⟨e, fun h => absurd h (by decide)⟩), KM6a w (Or.inl h)⟩
  · exact ⟨z, _, _, G_up w, CC_post (KC6a w (Or.inr h)) (fun _ _ _ e => ⟨e, fun h => absurd h (by decide)⟩), KM6a w (Or.inr h)⟩
  · rcases pk_ix u (n := 4) (by omega) with h | h | ⟨q, hq, rfl⟩
    · exact ⟨z, _, _, G_up w, CC_post (KC6b w ht (Or.inl h)) (fun _ _ _ e => ⟨e, fun h => absurd h (by decide)⟩), KM6b w ht (Or.inl h)⟩
    · exact ⟨z, _, _, G_up w, CC_post (KC6b w ht (Or.inr h)) (fun _ _ _ e => ⟨e, fun h => absurd h (by decide)⟩), KM6b w ht (Or.inr h)⟩
    · rcases (show q = 0 ∨ q = 1 ∨ q = 2 ∨ q = 3 by omega) with rfl | rfl | rfl | rfl
      · exact ⟨z, _, _, G_up w, CC_post (KC6_0 w ht) (fun _ _ _ e => ⟨e.1, fun _ => e.2⟩), KM6_0 w ht⟩
      · exact ⟨z, _, _, G_up w, CC_post (KC6_1 w ht) (fun _ _ _ e => ⟨e.1, fun _ => e.2⟩), KM6_1 w ht⟩
      · exact ⟨z, _, _, G_up w, CC_post (KC6_2 w ht) (fun _ _ _ e => ⟨e.1, fun _ => e.2⟩), KM6_2 w ht⟩
      · exact ⟨z, _, _, G_up w, CC_post (KC6_3 w ht) (fun _ _ _ e => ⟨e.1, fun _ => e.2⟩), KM6_3 w ht⟩
theorem P55 (w : WA N z)  : PQd 1 N z 136 [(0, .ref 100)] 296 [(0, .ref 200)] := by
  have bd := gn_bd w.1
  exact ⟨z, _, G_up w, KC55 w, KM55 w⟩
end
