/-! ===== case of one cluster: printed by 99zh.ccase.py ===== -/
section
theorem cq_B4 {x g s : Nat} (hs : s < 16) (hg : g < 2147483648) {a bb : Nat} {st : Nat → Nat} (g1 : GR 16 32 (fE B4) (sE B4) (dE B4) (bE B4)) : cq (fun s z => mb a bb st (fE B4) (sE B4) x s z 32) 64 0 (2 ^ s, [s], g) = cq (fun s z => lb a bb st (fE B4) (sE B4) (bE B4) x s z (dE B4 s)) 64 0 (2 ^ s, [s], g) :=
  cq_congr (n := 16) (fun _ _ _ hz => mb_VC g1 hz 32 (Nat.le_refl _)) (fun s z _ => (lb_mb a bb st B4 x s z).symm) 64 0 _ (VC_0 hs hg)
end
