/-! What the changes of either side leave as it was. (written by frames.py) -/
def fP (w s : vW) : Prop := ∀ r, 75 ≤ r → w r = s r
def fM (w s : vW) : Prop := ∀ r, r < 75 → w r = s r
theorem imgP_lt (k : Nat) : imgP k + 10 < 75 := by unfold imgP; split <;> decide
theorem shP_lt (k : Nat) : shP k + 1 < 75 := by unfold shP; split; decide; split; decide; split <;> decide
theorem shP_lt2 (k : Nat) : shP k < 75 := by have := shP_lt k; omega
theorem fP.rfl {s : vW} : fP s s := fun _ _ => Eq.refl _
theorem fP.set {w s : vW} {k i : Nat} {v : Int32} (hk : k < 75) (h : fP w s) : fP (vset w k i v) s := fun r hr => by rw [vset_row, vrow_ne (by omega)]; exact h r hr
theorem fP.row {w s : vW} {k : Nat} {f : Nat → Int32} (hk : k < 75) (h : fP w s) : fP (vrow w k f) s := fun r hr => by rw [vrow_ne (by omega)]; exact h r hr
theorem fP.ite {c : Prop} {q : Decidable c} {a b s : vW} (h1 : fP a s) (h2 : fP b s) : fP (if c then a else b) s := by split; exact h1; exact h2
theorem fP.it2 {c : Prop} {q : Decidable c} {a b : Int32 × vW} {s : vW} (h1 : fP a.2 s) (h2 : fP b.2 s) : fP (if c then a else b).2 s := by split; exact h1; exact h2
theorem fP.it1 {c : Prop} {q : Decidable c} {a b : vW × Nat} {s : vW} (h1 : fP a.1 s) (h2 : fP b.1 s) : fP (if c then a else b).1 s := by split; exact h1; exact h2
theorem fM.rfl {s : vW} : fM s s := fun _ _ => Eq.refl _
theorem fM.set {w s : vW} {k i : Nat} {v : Int32} (hk : 75 ≤ k) (h : fM w s) : fM (vset w k i v) s := fun r hr => by rw [vset_row, vrow_ne (by omega)]; exact h r hr
theorem fM.row {w s : vW} {k : Nat} {f : Nat → Int32} (hk : 75 ≤ k) (h : fM w s) : fM (vrow w k f) s := fun r hr => by rw [vrow_ne (by omega)]; exact h r hr
theorem fM.ite {c : Prop} {q : Decidable c} {a b s : vW} (h1 : fM a s) (h2 : fM b s) : fM (if c then a else b) s := by split; exact h1; exact h2
theorem fM.it2 {c : Prop} {q : Decidable c} {a b : Int32 × vW} {s : vW} (h1 : fM a.2 s) (h2 : fM b.2 s) : fM (if c then a else b).2 s := by split; exact h1; exact h2
theorem fM.it1 {c : Prop} {q : Decidable c} {a b : vW × Nat} {s : vW} (h1 : fM a.1 s) (h2 : fM b.1 s) : fM (if c then a else b).1 s := by split; exact h1; exact h2
theorem fp_appW {s0 : vW} {σ : vW} {n : Nat} {c : Int32} (hs0 : fP σ s0)  : fP (appW σ n c) s0 := by
  unfold appW
  repeat' (first | with_reducible (first | assumption | apply fP.set | apply fP.row | apply fP.it2 | apply fP.it1 | apply fP.ite | exact imgP_lt _ | exact shP_lt _ | exact shP_lt2 _) | omega)
theorem fp_feedW {s0 : vW} {σ : vW} {n : Nat} {c : Int32} (hs0 : fP σ s0)  : fP (feedW σ n c) s0 := by
  unfold feedW
  repeat' (first | with_reducible (first | assumption | apply fp_appW | apply fP.set | apply fP.row | apply fP.it2 | apply fP.it1 | apply fP.ite | exact imgP_lt _ | exact shP_lt _ | exact shP_lt2 _) | omega)
theorem fp_endW {s0 : vW} {σ : vW} {n : Int32} (hs0 : fP σ s0)  : fP (endW σ n) s0 := by
  unfold endW
  repeat' (first | with_reducible (first | assumption | apply fP.set | apply fP.row | apply fP.it2 | apply fP.it1 | apply fP.ite | exact imgP_lt _ | exact shP_lt _ | exact shP_lt2 _) | omega)
theorem fp_rk0 {s0 : vW} {σ : vW} {l : Nat} {q : Nat} (hs0 : fP σ s0)  : fP (rk0 σ l q) s0 := by
  unfold rk0
  repeat' (first | with_reducible (first | assumption | apply fP.set | apply fP.row | apply fP.it2 | apply fP.it1 | apply fP.ite | exact imgP_lt _ | exact shP_lt _ | exact shP_lt2 _) | omega)
theorem fp_rk1 {s0 : vW} {σ : vW} {l : Nat} {q : Nat} (hs0 : fP σ s0)  : fP (rk1 σ l q) s0 := by
  unfold rk1
  repeat' (first | with_reducible (first | assumption | apply fp_rk0 | apply fP.set | apply fP.row | apply fP.it2 | apply fP.it1 | apply fP.ite | exact imgP_lt _ | exact shP_lt _ | exact shP_lt2 _) | omega)
theorem fp_rkW1 {s0 : vW} {σ : vW} {l : Nat} {q : Nat} (hs0 : fP σ s0)  : fP (rkW1 σ l q) s0 := by
  unfold rkW1
  repeat' (first | with_reducible (first | assumption | apply fp_rk0 | apply fp_rk1 | apply fP.set | apply fP.row | apply fP.it2 | apply fP.it1 | apply fP.ite | exact imgP_lt _ | exact shP_lt _ | exact shP_lt2 _) | omega)
theorem fp_rkW {s0 : vW} {σ : vW} {l : Nat} {p : Nat} (hs0 : fP σ s0)  : fP (rkW σ l p) s0 := by
  unfold rkW
  repeat' (first | with_reducible (first | assumption | apply fp_rkW1 | apply fP.set | apply fP.row | apply fP.it2 | apply fP.it1 | apply fP.ite | exact imgP_lt _ | exact shP_lt _ | exact shP_lt2 _) | omega)
theorem fp_rkQ {s0 : vW} {σ : vW} (hs0 : fP σ s0)  : fP (rkQ σ) s0 := by
  unfold rkQ
  repeat' (first | with_reducible (first | assumption | apply fp_rkW | apply fP.set | apply fP.row | apply fP.it2 | apply fP.it1 | apply fP.ite | exact imgP_lt _ | exact shP_lt _ | exact shP_lt2 _) | omega)
theorem fp_rfW {s0 : vW} {σ : vW} {c : Int32} (hs0 : fP σ s0)  : fP (rfW σ c) s0 := by
  unfold rfW
  repeat' (first | with_reducible (first | assumption | apply fP.set | apply fP.row | apply fP.it2 | apply fP.it1 | apply fP.ite | exact imgP_lt _ | exact shP_lt _ | exact shP_lt2 _) | omega)
theorem fp_ntW {s0 : vW} {σ : vW} (hs0 : fP σ s0)  : fP (ntW σ) s0 := by
  unfold ntW
  repeat' (first | with_reducible (first | assumption | apply fp_rkQ | apply fp_rfW | apply fP.set | apply fP.row | apply fP.it2 | apply fP.it1 | apply fP.ite | exact imgP_lt _ | exact shP_lt _ | exact shP_lt2 _) | omega)
theorem fp_tsW {s0 : vW} {σ : vW} (hs0 : fP σ s0)  : fP (tsW σ) s0 := by
  unfold tsW
  repeat' (first | with_reducible (first | assumption | apply fp_rfW | apply fP.set | apply fP.row | apply fP.it2 | apply fP.it1 | apply fP.ite | exact imgP_lt _ | exact shP_lt _ | exact shP_lt2 _) | omega)
theorem fp_wl3 {s0 : vW} {s : vW} {a : Int32} {b : Int32} (hs0 : fP s s0)  : fP (wl3 s a b) s0 := by
  unfold wl3
  repeat' (first | with_reducible (first | assumption | apply fp_rfW | apply fP.set | apply fP.row | apply fP.it2 | apply fP.it1 | apply fP.ite | exact imgP_lt _ | exact shP_lt _ | exact shP_lt2 _) | omega)
theorem fp_nh2 {s0 : vW} {σ : vW} {mx : Int32} (hs0 : fP σ s0)  : fP (nh2 σ mx) s0 := by
  unfold nh2
  repeat' (first | with_reducible (first | assumption | apply fp_rfW | apply fP.set | apply fP.row | apply fP.it2 | apply fP.it1 | apply fP.ite | exact imgP_lt _ | exact shP_lt _ | exact shP_lt2 _) | omega)
theorem fp_nh1 {s0 : vW} {σ : vW} (hs0 : fP σ s0)  : fP (nh1 σ) s0 := by
  unfold nh1
  repeat' (first | with_reducible (first | assumption | apply fp_rfW | apply fP.set | apply fP.row | apply fP.it2 | apply fP.it1 | apply fP.ite | exact imgP_lt _ | exact shP_lt _ | exact shP_lt2 _) | omega)
theorem fp_nhW {s0 : vW} {σ : vW} {mx : Int32} (hs0 : fP σ s0)  : fP (nhW σ mx) s0 := by
  unfold nhW
  repeat' (first | with_reducible (first | assumption | apply fp_nh2 | apply fp_nh1 | apply fP.set | apply fP.row | apply fP.it2 | apply fP.it1 | apply fP.ite | exact imgP_lt _ | exact shP_lt _ | exact shP_lt2 _) | omega)
theorem fp_nnW {s0 : vW} {σ : vW} {mx : Int32} (hs0 : fP σ s0)  : fP (nnW σ mx) s0 := by
  unfold nnW
  repeat' (first | with_reducible (first | assumption | apply fp_ntW | apply fp_nhW | apply fP.set | apply fP.row | apply fP.it2 | apply fP.it1 | apply fP.ite | exact imgP_lt _ | exact shP_lt _ | exact shP_lt2 _) | omega)
theorem fp_wl4 {s0 : vW} {σ : vW} (hs0 : fP σ s0)  : fP (wl4 σ) s0 := by
  unfold wl4
  repeat' (first | with_reducible (first | assumption | apply fp_ntW | apply fp_tsW | apply fp_wl3 | apply fp_nnW | apply fP.set | apply fP.row | apply fP.it2 | apply fP.it1 | apply fP.ite | exact imgP_lt _ | exact shP_lt _ | exact shP_lt2 _) | omega)
theorem fp_addWallW {s0 : vW} {σ : vW} {t : Nat} {m : Nat} {a : Int32} {b : Int32} (hs0 : fP σ s0) (h_t : t + 10 < 75) : fP (addWallW σ t m a b) s0 := by
  unfold addWallW
  repeat' (first | with_reducible (first | assumption | apply fP.set | apply fP.row | apply fP.it2 | apply fP.it1 | apply fP.ite | exact imgP_lt _ | exact shP_lt _ | exact shP_lt2 _) | omega)
theorem fp_wlW {s0 : vW} {σ : vW} {m : Nat} (hs0 : fP σ s0)  : fP (wlW σ m) s0 := by
  unfold wlW
  repeat' (first | with_reducible (first | assumption | apply fp_rfW | apply fp_nnW | apply fp_wl4 | apply fp_addWallW | apply fP.set | apply fP.row | apply fP.it2 | apply fP.it1 | apply fP.ite | exact imgP_lt _ | exact shP_lt _ | exact shP_lt2 _) | omega)
theorem fp_rm1 {s0 : vW} {σ : vW} (hs0 : fP σ s0)  : fP (rm1 σ) s0 := by
  unfold rm1
  repeat' (first | with_reducible (first | assumption | apply fp_rfW | apply fp_nnW | apply fP.set | apply fP.row | apply fP.it2 | apply fP.it1 | apply fP.ite | exact imgP_lt _ | exact shP_lt _ | exact shP_lt2 _) | omega)
theorem fp_rm2 {s0 : vW} {σ : vW} (hs0 : fP σ s0)  : fP (rm2 σ) s0 := by
  unfold rm2
  repeat' (first | with_reducible (first | assumption | apply fp_ntW | apply fp_tsW | apply fp_nnW | apply fp_rm1 | apply fP.set | apply fP.row | apply fP.it2 | apply fP.it1 | apply fP.ite | exact imgP_lt _ | exact shP_lt _ | exact shP_lt2 _) | omega)
theorem fp_rmW1 {s0 : vW} {σ : vW} (hs0 : fP σ s0)  : fP (rmW1 σ) s0 := by
  unfold rmW1
  repeat' (first | with_reducible (first | assumption | apply fp_rm1 | apply fp_rm2 | apply fP.set | apply fP.row | apply fP.it2 | apply fP.it1 | apply fP.ite | exact imgP_lt _ | exact shP_lt _ | exact shP_lt2 _) | omega)
theorem fp_plA {s0 : vW} {t : vW} (hs0 : fP t s0)  : fP (plA t) s0 := by
  unfold plA
  repeat' (first | with_reducible (first | assumption | apply fp_rfW | apply fP.set | apply fP.row | apply fP.it2 | apply fP.it1 | apply fP.ite | exact imgP_lt _ | exact shP_lt _ | exact shP_lt2 _) | omega)
theorem fp_plB {s0 : vW} {s : vW} (hs0 : fP s s0)  : fP (plB s) s0 := by
  unfold plB
  repeat' (first | with_reducible (first | assumption | apply fp_ntW | apply fp_nhW | apply fp_nnW | apply fp_plA | apply fP.set | apply fP.row | apply fP.it2 | apply fP.it1 | apply fP.ite | exact imgP_lt _ | exact shP_lt _ | exact shP_lt2 _) | omega)
theorem fp_addActW {s0 : vW} {σ : vW} {t : Nat} {m : Nat} {a : Int32} {b : Int32} (hs0 : fP σ s0) (h_t : t + 10 < 75) : fP (addActW σ t m a b) s0 := by
  unfold addActW
  repeat' (first | with_reducible (first | assumption | apply fP.set | apply fP.row | apply fP.it2 | apply fP.it1 | apply fP.ite | exact imgP_lt _ | exact shP_lt _ | exact shP_lt2 _) | omega)
theorem fp_plS {s0 : vW} {s : vW} (hs0 : fP s s0)  : fP (plS s) s0 := by
  unfold plS
  repeat' (first | with_reducible (first | assumption | apply fp_ntW | apply fp_nhW | apply fp_plA | apply fp_plB | apply fp_addActW | apply fP.set | apply fP.row | apply fP.it2 | apply fP.it1 | apply fP.ite | exact imgP_lt _ | exact shP_lt _ | exact shP_lt2 _) | omega)
theorem fp_plG {s0 : vW} : ∀ {j : Nat} {w : vW}, fP w s0 → fP (plG j w) s0
  | 0, w, h => h
  | j + 1, w, h => by
    have ih : ∀ {w : vW}, fP w s0 → fP (plG j w) s0 := fun h => fp_plG h
    unfold plG
    repeat' (first | with_reducible (first | assumption | apply ih | apply fp_ntW | apply fp_plS | apply fP.set | apply fP.row | apply fP.it2 | apply fP.it1 | apply fP.ite | exact imgP_lt _ | exact shP_lt _ | exact shP_lt2 _) | omega)
theorem fp_pl0 {s0 : vW} {σ : vW} (hs0 : fP σ s0)  : fP (pl0 σ) s0 := by
  unfold pl0
  repeat' (first | with_reducible (first | assumption | apply fp_rfW | apply fP.set | apply fP.row | apply fP.it2 | apply fP.it1 | apply fP.ite | exact imgP_lt _ | exact shP_lt _ | exact shP_lt2 _) | omega)
theorem fp_plW {s0 : vW} {σ : vW} (hs0 : fP σ s0)  : fP (plW σ) s0 := by
  unfold plW
  repeat' (first | with_reducible (first | assumption | apply fp_plG | apply fp_pl0 | apply fP.set | apply fP.row | apply fP.it2 | apply fP.it1 | apply fP.ite | exact imgP_lt _ | exact shP_lt _ | exact shP_lt2 _) | omega)
theorem fp_hdW {s0 : vW} {σ : vW} {n : Nat} (hs0 : fP σ s0)  : fP (hdW σ n) s0 := by
  unfold hdW
  repeat' (first | with_reducible (first | assumption | apply fp_rfW | apply fp_nhW | apply fP.set | apply fP.row | apply fP.it2 | apply fP.it1 | apply fP.ite | exact imgP_lt _ | exact shP_lt _ | exact shP_lt2 _) | omega)
theorem fp_od3 {s0 : vW} {s : vW} {n : Nat} (hs0 : fP s s0)  : fP (od3 s n) s0 := by
  unfold od3
  repeat' (first | with_reducible (first | assumption | apply fp_ntW | apply fp_hdW | apply fP.set | apply fP.row | apply fP.it2 | apply fP.it1 | apply fP.ite | exact imgP_lt _ | exact shP_lt _ | exact shP_lt2 _) | omega)
theorem fp_addOneW {s0 : vW} {σ : vW} {t : Nat} {n : Nat} {k : Int32} {h : Int32} {r : Int32} (hs0 : fP σ s0) (h_t : t + 10 < 75) : fP (addOneW σ t n k h r) s0 := by
  unfold addOneW
  repeat' (first | with_reducible (first | assumption | apply fP.set | apply fP.row | apply fP.it2 | apply fP.it1 | apply fP.ite | exact imgP_lt _ | exact shP_lt _ | exact shP_lt2 _) | omega)
theorem fp_od1 {s0 : vW} {σ : vW} (hs0 : fP σ s0)  : fP (od1 σ) s0 := by
  unfold od1
  repeat' (first | with_reducible (first | assumption | apply fp_ntW | apply fp_nnW | apply fP.set | apply fP.row | apply fP.it2 | apply fP.it1 | apply fP.ite | exact imgP_lt _ | exact shP_lt _ | exact shP_lt2 _) | omega)
theorem fp_od2 {s0 : vW} {σ : vW} {n : Nat} {kd : Int32} (hs0 : fP σ s0)  : fP (od2 σ n kd) s0 := by
  unfold od2
  repeat' (first | with_reducible (first | assumption | apply fp_nnW | apply fp_addOneW | apply fp_od1 | apply fP.set | apply fP.row | apply fP.it2 | apply fP.it1 | apply fP.ite | exact imgP_lt _ | exact shP_lt _ | exact shP_lt2 _) | omega)
theorem fp_odW {s0 : vW} {σ : vW} {n : Nat} {kd : Int32} (hs0 : fP σ s0)  : fP (odW σ n kd) s0 := by
  unfold odW
  repeat' (first | with_reducible (first | assumption | apply fp_rfW | apply fp_tsW | apply fp_nnW | apply fp_od3 | apply fp_od1 | apply fp_od2 | apply fP.set | apply fP.row | apply fP.it2 | apply fP.it1 | apply fP.ite | exact imgP_lt _ | exact shP_lt _ | exact shP_lt2 _) | omega)
theorem fp_raE {s0 : vW} {S : vW} (hs0 : fP S s0)  : fP (raE S) s0 := by
  unfold raE
  repeat' (first | with_reducible (first | assumption | apply fP.set | apply fP.row | apply fP.it2 | apply fP.it1 | apply fP.ite | exact imgP_lt _ | exact shP_lt _ | exact shP_lt2 _) | omega)
theorem fp_lnP1 {s0 : vW} {t : vW} (hs0 : fP t s0)  : fP (lnP1 t) s0 := by
  unfold lnP1
  repeat' (first | with_reducible (first | assumption | apply fp_rfW | apply fp_wlW | apply fp_rmW1 | apply fp_plW | apply fp_odW | apply fP.set | apply fP.row | apply fP.it2 | apply fP.it1 | apply fP.ite | exact imgP_lt _ | exact shP_lt _ | exact shP_lt2 _) | omega)
theorem fp_lnP {s0 : vW} {t : vW} (hs0 : fP t s0)  : fP (lnP t) s0 := by
  unfold lnP
  repeat' (first | with_reducible (first | assumption | apply fp_lnP1 | apply fP.set | apply fP.row | apply fP.it2 | apply fP.it1 | apply fP.ite | exact imgP_lt _ | exact shP_lt _ | exact shP_lt2 _) | omega)
theorem fp_raG {s0 : vW} : ∀ {j : Nat} {w : vW}, fP w s0 → fP (raG j w) s0
  | 0, w, h => h
  | j + 1, w, h => by
    have ih : ∀ {w : vW}, fP w s0 → fP (raG j w) s0 := fun h => fp_raG h
    unfold raG
    repeat' (first | with_reducible (first | assumption | apply ih | apply fp_ntW | apply fp_lnP | apply fP.set | apply fP.row | apply fP.it2 | apply fP.it1 | apply fP.ite | exact imgP_lt _ | exact shP_lt _ | exact shP_lt2 _) | omega)
theorem fp_clrW {s0 : vW} {σ : vW} {t : Nat} (hs0 : fP σ s0) (h_t : t + 10 < 75) : fP (clrW σ t) s0 := by
  unfold clrW
  repeat' (first | with_reducible (first | assumption | apply fP.set | apply fP.row | apply fP.it2 | apply fP.it1 | apply fP.ite | exact imgP_lt _ | exact shP_lt _ | exact shP_lt2 _) | omega)
theorem fp_ra0 {s0 : vW} {σ : vW} (hs0 : fP σ s0)  : fP (ra0 σ) s0 := by
  unfold ra0
  repeat' (first | with_reducible (first | assumption | apply fp_clrW | apply fP.set | apply fP.row | apply fP.it2 | apply fP.it1 | apply fP.ite | exact imgP_lt _ | exact shP_lt _ | exact shP_lt2 _) | omega)
theorem fp_raW {s0 : vW} {σ : vW} (hs0 : fP σ s0)  : fP (raW σ) s0 := by
  unfold raW
  repeat' (first | with_reducible (first | assumption | apply fp_raE | apply fp_raG | apply fp_ra0 | apply fP.set | apply fP.row | apply fP.it2 | apply fP.it1 | apply fP.ite | exact imgP_lt _ | exact shP_lt _ | exact shP_lt2 _) | omega)
theorem fp_cpy5 {s0 : vW} {σ : vW} {a : Nat} {b : Nat} {n : Nat} (hs0 : fP σ s0) (h_b : b < 75) : fP (cpy5 σ a b n) s0 := by
  unfold cpy5
  repeat' (first | with_reducible (first | assumption | apply fP.set | apply fP.row | apply fP.it2 | apply fP.it1 | apply fP.ite | exact imgP_lt _ | exact shP_lt _ | exact shP_lt2 _) | omega)
theorem fp_becW {s0 : vW} {σ : vW} {t : Nat} {o : Nat} (hs0 : fP σ s0) (h_t : t + 10 < 75) : fP (becW σ t o) s0 := by
  unfold becW
  repeat' (first | with_reducible (first | assumption | apply fp_cpy5 | apply fP.set | apply fP.row | apply fP.it2 | apply fP.it1 | apply fP.ite | exact imgP_lt _ | exact shP_lt _ | exact shP_lt2 _) | omega)
theorem fp_ptT {s0 : vW} {S : vW} (hs0 : fP S s0)  : fP (ptT S) s0 := by
  unfold ptT
  repeat' (first | with_reducible (first | assumption | apply fP.set | apply fP.row | apply fP.it2 | apply fP.it1 | apply fP.ite | exact imgP_lt _ | exact shP_lt _ | exact shP_lt2 _) | omega)
theorem fp_ptK {s0 : vW} {S : vW} (hs0 : fP S s0)  : ∀ {k : Nat}, fP (ptK S k) s0
  | 0 => by
    unfold ptK
    repeat' (first | with_reducible (first | assumption | apply fp_becW | apply fp_ptT | apply fP.set | apply fP.row | apply fP.it2 | apply fP.it1 | apply fP.ite | exact imgP_lt _ | exact shP_lt _ | exact shP_lt2 _) | omega)
  | k + 1 => by
    have ih : fP (ptK S k) s0 := fp_ptK hs0 
    unfold ptK
    repeat' (first | with_reducible (first | assumption | apply fp_becW | apply fp_ptT | apply fP.set | apply fP.row | apply fP.it2 | apply fP.it1 | apply fP.ite | exact imgP_lt _ | exact shP_lt _ | exact shP_lt2 _) | omega)
theorem fp_ptW {s0 : vW} {S : vW} (hs0 : fP S s0)  : fP (ptW S) s0 := by
  unfold ptW
  repeat' (first | with_reducible (first | assumption | apply fp_ptT | apply fp_ptK | apply fP.set | apply fP.row | apply fP.it2 | apply fP.it1 | apply fP.ite | exact imgP_lt _ | exact shP_lt _ | exact shP_lt2 _) | omega)
theorem fp_replW {s0 : vW} {σ : vW} {r : Nat} {N : Nat} {i : Int32} {v : Int32} {mx : Int32} (hs0 : fP σ s0) (h_r : r < 75) : fP (replW σ r N i v mx) s0 := by
  unfold replW
  repeat' (first | with_reducible (first | assumption | apply fP.set | apply fP.row | apply fP.it2 | apply fP.it1 | apply fP.ite | exact imgP_lt _ | exact shP_lt _ | exact shP_lt2 _) | omega)
theorem fp_alterW {s0 : vW} {σ : vW} {p : Int32} {w : Int32} {v : Int32} (hs0 : fP σ s0)  : fP (alterW σ p w v) s0 := by
  unfold alterW
  repeat' (first | with_reducible (first | assumption | apply fp_replW | apply fP.set | apply fP.row | apply fP.it2 | apply fP.it1 | apply fP.ite | exact imgP_lt _ | exact shP_lt _ | exact shP_lt2 _) | omega)
theorem fp_buildW {s0 : vW} {σ : vW} {m : Nat} {a : Int32} {b : Int32} (hs0 : fP σ s0)  : fP (buildW σ m a b) s0 := by
  unfold buildW
  repeat' (first | with_reducible (first | assumption | apply fp_addWallW | apply fP.set | apply fP.row | apply fP.it2 | apply fP.it1 | apply fP.ite | exact imgP_lt _ | exact shP_lt _ | exact shP_lt2 _) | omega)
theorem fp_planW {s0 : vW} {σ : vW} {K : Nat} {p : Int32} {w : Int32} (hs0 : fP σ s0)  : fP (planW σ K p w) s0 := by
  unfold planW
  repeat' (first | with_reducible (first | assumption | apply fp_addActW | apply fP.set | apply fP.row | apply fP.it2 | apply fP.it1 | apply fP.ite | exact imgP_lt _ | exact shP_lt _ | exact shP_lt2 _) | omega)
theorem fp_cutW {s0 : vW} {σ : vW} {n : Int32} (hs0 : fP σ s0)  : fP (cutW σ n) s0 := by
  unfold cutW
  repeat' (first | with_reducible (first | assumption | apply fP.set | apply fP.row | apply fP.it2 | apply fP.it1 | apply fP.ite | exact imgP_lt _ | exact shP_lt _ | exact shP_lt2 _) | omega)
theorem fp_hangW {s0 : vW} {σ : vW} {t : Nat} {p : Int32} {w : Int32} (hs0 : fP σ s0) (h_t : t + 10 < 75) : fP (hangW σ t p w) s0 := by
  unfold hangW
  repeat' (first | with_reducible (first | assumption | apply fP.set | apply fP.row | apply fP.it2 | apply fP.it1 | apply fP.ite | exact imgP_lt _ | exact shP_lt _ | exact shP_lt2 _) | omega)
theorem fp_hangV {s0 : vW} {σ : vW} {p : Int32} {w : Int32} (hs0 : fP σ s0)  : fP (hangV σ p w) s0 := by
  unfold hangV
  repeat' (first | with_reducible (first | assumption | apply fp_hangW | apply fP.set | apply fP.row | apply fP.it2 | apply fP.it1 | apply fP.ite | exact imgP_lt _ | exact shP_lt _ | exact shP_lt2 _) | omega)
theorem fp_takeW {s0 : vW} {σ : vW} {t : Nat} {w : Int32} {th : Int32} (hs0 : fP σ s0) (h_t : t + 10 < 75) : fP (takeW σ t w th) s0 := by
  unfold takeW
  repeat' (first | with_reducible (first | assumption | apply fP.set | apply fP.row | apply fP.it2 | apply fP.it1 | apply fP.ite | exact imgP_lt _ | exact shP_lt _ | exact shP_lt2 _) | omega)
theorem fp_fillV {s0 : vW} {σ : vW} {w : Int32} (hs0 : fP σ s0)  : fP (fillV σ w) s0 := by
  unfold fillV
  repeat' (first | with_reducible (first | assumption | apply fp_takeW | apply fP.set | apply fP.row | apply fP.it2 | apply fP.it1 | apply fP.ite | exact imgP_lt _ | exact shP_lt _ | exact shP_lt2 _) | omega)
theorem fp_noteW {s0 : vW} {σ : vW} {s : Nat} {p : Int32} {r : Int32} {b : Int32} (hs0 : fP σ s0)  : fP (noteW σ s p r b) s0 := by
  unfold noteW
  repeat' (first | with_reducible (first | assumption | apply fP.set | apply fP.row | apply fP.it2 | apply fP.it1 | apply fP.ite | exact imgP_lt _ | exact shP_lt _ | exact shP_lt2 _) | omega)
theorem fp_seeW {s0 : vW} {σ : vW} {s : Nat} {p : Int32} {r : Int32} {b : Int32} (hs0 : fP σ s0)  : fP (seeW σ s p r b) s0 := by
  unfold seeW
  repeat' (first | with_reducible (first | assumption | apply fp_noteW | apply fP.set | apply fP.row | apply fP.it2 | apply fP.it1 | apply fP.ite | exact imgP_lt _ | exact shP_lt _ | exact shP_lt2 _) | omega)
theorem fp_forgW {s0 : vW} {σ : vW} {n : Int32} (hs0 : fP σ s0)  : fP (forgW σ n) s0 := by
  unfold forgW
  repeat' (first | with_reducible (first | assumption | apply fP.set | apply fP.row | apply fP.it2 | apply fP.it1 | apply fP.ite | exact imgP_lt _ | exact shP_lt _ | exact shP_lt2 _) | omega)
theorem fp_keepW {s0 : vW} {σ : vW} {k : Int32} (hs0 : fP σ s0)  : fP (keepW σ k) s0 := by
  unfold keepW
  repeat' (first | with_reducible (first | assumption | apply fp_becW | apply fP.set | apply fP.row | apply fP.it2 | apply fP.it1 | apply fP.ite | exact imgP_lt _ | exact shP_lt _ | exact shP_lt2 _) | omega)
theorem fp_backW {s0 : vW} {σ : vW} {k : Int32} (hs0 : fP σ s0)  : fP (backW σ k) s0 := by
  unfold backW
  repeat' (first | with_reducible (first | assumption | apply fp_becW | apply fP.set | apply fP.row | apply fP.it2 | apply fP.it1 | apply fP.ite | exact imgP_lt _ | exact shP_lt _ | exact shP_lt2 _) | omega)
theorem fp_renewW {s0 : vW} {σ : vW} {b : Nat} {l : Int32} {n : Int32} (hs0 : fP σ s0) (h_b : b + 1 < 75) : fP (renewW σ b l n) s0 := by
  unfold renewW
  repeat' (first | with_reducible (first | assumption | apply fP.set | apply fP.row | apply fP.it2 | apply fP.it1 | apply fP.ite | exact imgP_lt _ | exact shP_lt _ | exact shP_lt2 _) | omega)
theorem fp_sheetW {s0 : vW} {σ : vW} {k : Int32} {l : Int32} {n : Int32} (hs0 : fP σ s0)  : fP (sheetW σ k l n) s0 := by
  unfold sheetW
  repeat' (first | with_reducible (first | assumption | apply fp_renewW | apply fP.set | apply fP.row | apply fP.it2 | apply fP.it1 | apply fP.ite | exact imgP_lt _ | exact shP_lt _ | exact shP_lt2 _) | omega)
theorem fp_layW {s0 : vW} {σ : vW} {k : Int32} {i : Int32} {v : Int32} (hs0 : fP σ s0)  : fP (layW σ k i v) s0 := by
  unfold layW
  repeat' (first | with_reducible (first | assumption | apply fP.set | apply fP.row | apply fP.it2 | apply fP.it1 | apply fP.ite | exact imgP_lt _ | exact shP_lt _ | exact shP_lt2 _) | omega)
theorem fp_rdE {s0 : vW} {s : vW} {v : Int32} (hs0 : fP s s0)  : fP (rdE s v) s0 := by
  unfold rdE
  repeat' (first | with_reducible (first | assumption | apply fp_becW | apply fP.set | apply fP.row | apply fP.it2 | apply fP.it1 | apply fP.ite | exact imgP_lt _ | exact shP_lt _ | exact shP_lt2 _) | omega)
theorem fp_rdG {s0 : vW} {b : Nat} {l : Int32} {f : Int32} : ∀ {m i : Nat} {w : vW}, fP w s0 → fP (rdG b l f m i w).2 s0
  | 0, i, w, h => by
    show fP (rdE w (nI 0)) s0
    exact fp_rdE h
  | m + 1, i, w, h => by
    have ih : ∀ {i : Nat} {w : vW}, fP w s0 → fP (rdG b l f m i w).2 s0 := fun h => fp_rdG h
    unfold rdG
    repeat' (first | with_reducible (first | assumption | apply ih | apply fp_hangW | apply fp_rdE | apply fP.set | apply fP.row | apply fP.it2 | apply fP.it1 | apply fP.ite | exact imgP_lt _ | exact shP_lt _ | exact shP_lt2 _) | omega)
theorem fp_readW {s0 : vW} {σ : vW} {k : Int32} {l : Int32} {f : Int32} {n : Int32} (hs0 : fP σ s0)  : fP (readW σ k l f n) s0 := by
  unfold readW
  repeat' (first | with_reducible (first | assumption | apply fp_becW | apply fp_rdG | apply fP.set | apply fP.row | apply fP.it2 | apply fP.it1 | apply fP.ite | exact imgP_lt _ | exact shP_lt _ | exact shP_lt2 _) | omega)
theorem fp_fpW {s0 : vW} {σ : vW} {t : Nat} {lo : Int32} (hs0 : fP σ s0) (h_t : t + 10 < 75) : ∀ {k : Nat}, fP (fpW σ t lo k) s0
  | 0 => by
    unfold fpW
    repeat' (first | with_reducible (first | assumption | apply fp_hangW | apply fP.set | apply fP.row | apply fP.it2 | apply fP.it1 | apply fP.ite | exact imgP_lt _ | exact shP_lt _ | exact shP_lt2 _) | omega)
  | k + 1 => by
    have ih : fP (fpW σ t lo k) s0 := fp_fpW hs0 h_t
    unfold fpW
    repeat' (first | with_reducible (first | assumption | apply fp_hangW | apply fP.set | apply fP.row | apply fP.it2 | apply fP.it1 | apply fP.ite | exact imgP_lt _ | exact shP_lt _ | exact shP_lt2 _) | omega)
theorem fp_trialP {s0 : vW} {σ : vW} {K : Nat} {lo : Int32} (hs0 : fP σ s0)  : fP (trialP σ K lo) s0 := by
  unfold trialP
  repeat' (first | with_reducible (first | assumption | apply fp_becW | apply fp_fpW | apply fP.set | apply fP.row | apply fP.it2 | apply fP.it1 | apply fP.ite | exact imgP_lt _ | exact shP_lt _ | exact shP_lt2 _) | omega)
theorem fp_lvW {s0 : vW} {σ : vW} {K : Nat} (hs0 : fP σ s0)  : ∀ {k : Nat}, fP (lvW σ K k) s0
  | 0 => by
    unfold lvW
    repeat' (first | with_reducible (first | assumption | apply fp_trialP | apply fP.set | apply fP.row | apply fP.it2 | apply fP.it1 | apply fP.ite | exact imgP_lt _ | exact shP_lt _ | exact shP_lt2 _) | omega)
  | k + 1 => by
    have ih : fP (lvW σ K k) s0 := fp_lvW hs0 
    unfold lvW
    repeat' (first | with_reducible (first | assumption | apply fp_trialP | apply fP.set | apply fP.row | apply fP.it2 | apply fP.it1 | apply fP.ite | exact imgP_lt _ | exact shP_lt _ | exact shP_lt2 _) | omega)
theorem fp_kdW {s0 : vW} {σ : vW} {p : Nat} (hs0 : fP σ s0)  : ∀ {k : Nat}, fP (kdW σ p k) s0
  | 0 => by
    unfold kdW
    repeat' (first | with_reducible (first | assumption | apply fp_becW | apply fP.set | apply fP.row | apply fP.it2 | apply fP.it1 | apply fP.ite | exact imgP_lt _ | exact shP_lt _ | exact shP_lt2 _) | omega)
  | k + 1 => by
    have ih : fP (kdW σ p k) s0 := fp_kdW hs0 
    unfold kdW
    repeat' (first | with_reducible (first | assumption | apply fp_becW | apply fP.set | apply fP.row | apply fP.it2 | apply fP.it1 | apply fP.ite | exact imgP_lt _ | exact shP_lt _ | exact shP_lt2 _) | omega)
theorem fp_mv1 {s0 : vW} {σ : vW} {t : Nat} {p : Int32} (hs0 : fP σ s0) (h_t : t + 10 < 75) : fP (mv1 σ t p) s0 := by
  unfold mv1
  repeat' (first | with_reducible (first | assumption | apply fp_takeW | apply fP.set | apply fP.row | apply fP.it2 | apply fP.it1 | apply fP.ite | exact imgP_lt _ | exact shP_lt _ | exact shP_lt2 _) | omega)
theorem fp_mvW {s0 : vW} {σ : vW} {t : Nat} {p : Int32} {w : Int32} (hs0 : fP σ s0) (h_t : t + 10 < 75) : fP (mvW σ t p w) s0 := by
  unfold mvW
  repeat' (first | with_reducible (first | assumption | apply fp_hangW | apply fp_mv1 | apply fP.set | apply fP.row | apply fP.it2 | apply fP.it1 | apply fP.ite | exact imgP_lt _ | exact shP_lt _ | exact shP_lt2 _) | omega)
theorem fp_mvs {s0 : vW} {σ : vW} {p : Nat} (hs0 : fP σ s0)  : ∀ {k : Nat}, fP (mvs σ p k) s0
  | 0 => by
    unfold mvs
    repeat' (first | with_reducible (first | assumption | apply fp_becW | apply fp_mvW | apply fP.set | apply fP.row | apply fP.it2 | apply fP.it1 | apply fP.ite | exact imgP_lt _ | exact shP_lt _ | exact shP_lt2 _) | omega)
  | k + 1 => by
    have ih : fP (mvs σ p k) s0 := fp_mvs hs0 
    unfold mvs
    repeat' (first | with_reducible (first | assumption | apply fp_becW | apply fp_mvW | apply fP.set | apply fP.row | apply fP.it2 | apply fP.it1 | apply fP.ite | exact imgP_lt _ | exact shP_lt _ | exact shP_lt2 _) | omega)
theorem fp_riW {s0 : vW} {σ : vW} {rooms : Int32} (hs0 : fP σ s0)  : ∀ {k : Nat}, fP (riW σ rooms k) s0
  | 0 => by
    unfold riW
    repeat' (first | with_reducible (first | assumption | apply fP.set | apply fP.row | apply fP.it2 | apply fP.it1 | apply fP.ite | exact imgP_lt _ | exact shP_lt _ | exact shP_lt2 _) | omega)
  | k + 1 => by
    have ih : fP (riW σ rooms k) s0 := fp_riW hs0 
    unfold riW
    repeat' (first | with_reducible (first | assumption | apply fP.set | apply fP.row | apply fP.it2 | apply fP.it1 | apply fP.ite | exact imgP_lt _ | exact shP_lt _ | exact shP_lt2 _) | omega)
theorem fp_crM {s0 : vW} {σ : vW} {p : Nat} {walls : Int32} {k : Nat} (hs0 : fP σ s0)  : fP (crM σ p walls k) s0 := by
  unfold crM
  repeat' (first | with_reducible (first | assumption | apply fp_mvW | apply fP.set | apply fP.row | apply fP.it2 | apply fP.it1 | apply fP.ite | exact imgP_lt _ | exact shP_lt _ | exact shP_lt2 _) | omega)
theorem fp_crW {s0 : vW} {σ : vW} {m : Nat} {p : Nat} {q : Nat} {walls : Int32} (hs0 : fP σ s0)  : ∀ {k : Nat}, fP (crW σ m p q walls k) s0
  | 0 => by
    unfold crW
    repeat' (first | with_reducible (first | assumption | apply fp_becW | apply fp_riW | apply fp_crM | apply fP.set | apply fP.row | apply fP.it2 | apply fP.it1 | apply fP.ite | exact imgP_lt _ | exact shP_lt _ | exact shP_lt2 _) | omega)
  | k + 1 => by
    have ih : fP (crW σ m p q walls k) s0 := fp_crW hs0 
    unfold crW
    repeat' (first | with_reducible (first | assumption | apply fp_becW | apply fp_riW | apply fp_crM | apply fP.set | apply fP.row | apply fP.it2 | apply fP.it1 | apply fP.ite | exact imgP_lt _ | exact shP_lt _ | exact shP_lt2 _) | omega)
theorem fp_askW {s0 : vW} {σ : vW} {m : Nat} {s : Nat} {p : Nat} (hs0 : fP σ s0)  : ∀ {k : Nat}, fP (askW σ m s p k) s0
  | 0 => by
    unfold askW
    repeat' (first | with_reducible (first | assumption | apply fp_mvs | apply fp_crW | apply fP.set | apply fP.row | apply fP.it2 | apply fP.it1 | apply fP.ite | exact imgP_lt _ | exact shP_lt _ | exact shP_lt2 _) | omega)
  | k + 1 => by
    have ih : fP (askW σ m s p k) s0 := fp_askW hs0 
    unfold askW
    repeat' (first | with_reducible (first | assumption | apply fp_mvs | apply fp_crW | apply fP.set | apply fP.row | apply fP.it2 | apply fP.it1 | apply fP.ite | exact imgP_lt _ | exact shP_lt _ | exact shP_lt2 _) | omega)
theorem fp_drW {s0 : vW} {σ : vW} {t : Nat} {n : Nat} {m : Nat} {g : Int32} (hs0 : fP σ s0) (h_t : t + 10 < 75) : fP (drW σ t n m g) s0 := by
  unfold drW
  repeat' (first | with_reducible (first | assumption | apply fp_hangW | apply fp_takeW | apply fP.set | apply fP.row | apply fP.it2 | apply fP.it1 | apply fP.ite | exact imgP_lt _ | exact shP_lt _ | exact shP_lt2 _) | omega)
theorem fp_dsW {s0 : vW} {σ : vW} {n : Nat} {m : Nat} {seed : Int32} (hs0 : fP σ s0)  : ∀ {k : Nat}, fP (dsW σ n m seed k) s0
  | 0 => by
    unfold dsW
    repeat' (first | with_reducible (first | assumption | apply fp_becW | apply fp_drW | apply fP.set | apply fP.row | apply fP.it2 | apply fP.it1 | apply fP.ite | exact imgP_lt _ | exact shP_lt _ | exact shP_lt2 _) | omega)
  | k + 1 => by
    have ih : fP (dsW σ n m seed k) s0 := fp_dsW hs0 
    unfold dsW
    repeat' (first | with_reducible (first | assumption | apply fp_becW | apply fp_drW | apply fP.set | apply fP.row | apply fP.it2 | apply fP.it1 | apply fP.ite | exact imgP_lt _ | exact shP_lt _ | exact shP_lt2 _) | omega)
theorem fp_driftW {s0 : vW} {σ : vW} {n : Nat} {m : Nat} {seed : Int32} {c : Int32} {w : Int32} (hs0 : fP σ s0)  : fP (driftW σ n m seed c w) s0 := by
  unfold driftW
  repeat' (first | with_reducible (first | assumption | apply fp_dsW | apply fP.set | apply fP.row | apply fP.it2 | apply fP.it1 | apply fP.ite | exact imgP_lt _ | exact shP_lt _ | exact shP_lt2 _) | omega)
theorem fm_mFeedW {s0 : vW} {σ : vW} {l : Nat} {a : Int32} (hs0 : fM σ s0)  : fM (mFeedW σ l a) s0 := by
  unfold mFeedW
  repeat' (first | with_reducible (first | assumption | apply fM.set | apply fM.row | apply fM.it2 | apply fM.it1 | apply fM.ite | exact imgP_lt _ | exact shP_lt _ | exact shP_lt2 _) | omega)
theorem fm_failW {s0 : vW} {σ : vW} {c : Int32} (hs0 : fM σ s0)  : fM (failW σ c) s0 := by
  unfold failW
  repeat' (first | with_reducible (first | assumption | apply fM.set | apply fM.row | apply fM.it2 | apply fM.it1 | apply fM.ite | exact imgP_lt _ | exact shP_lt _ | exact shP_lt2 _) | omega)
theorem fm_txB {s0 : vW} {W : vW} (hs0 : fM W s0)  : fM (txB W) s0 := by
  unfold txB
  repeat' (first | with_reducible (first | assumption | apply fm_failW | apply fM.set | apply fM.row | apply fM.it2 | apply fM.it1 | apply fM.ite | exact imgP_lt _ | exact shP_lt _ | exact shP_lt2 _) | omega)
theorem fm_txP {s0 : vW} {W : vW} {k : Nat} (hs0 : fM W s0)  : fM (txP W k) s0 := by
  unfold txP
  repeat' (first | with_reducible (first | assumption | apply fM.set | apply fM.row | apply fM.it2 | apply fM.it1 | apply fM.ite | exact imgP_lt _ | exact shP_lt _ | exact shP_lt2 _) | omega)
theorem fm_txC {s0 : vW} {W : vW} (hs0 : fM W s0)  : fM (txC W) s0 := by
  unfold txC
  repeat' (first | with_reducible (first | assumption | apply fm_txB | apply fM.set | apply fM.row | apply fM.it2 | apply fM.it1 | apply fM.ite | exact imgP_lt _ | exact shP_lt _ | exact shP_lt2 _) | omega)
theorem fm_txD {s0 : vW} {W : vW} (hs0 : fM W s0)  : fM (txD W) s0 := by
  unfold txD
  repeat' (first | with_reducible (first | assumption | apply fm_txP | apply fm_txC | apply fM.set | apply fM.row | apply fM.it2 | apply fM.it1 | apply fM.ite | exact imgP_lt _ | exact shP_lt _ | exact shP_lt2 _) | omega)
theorem fm_stW0 {s0 : vW} {σ : vW} {q : Nat} (hs0 : fM σ s0)  : fM (stW0 σ q) s0 := by
  unfold stW0
  repeat' (first | with_reducible (first | assumption | apply fM.set | apply fM.row | apply fM.it2 | apply fM.it1 | apply fM.ite | exact imgP_lt _ | exact shP_lt _ | exact shP_lt2 _) | omega)
theorem fm_stW1 {s0 : vW} {σ : vW} {l : Nat} {q : Nat} (hs0 : fM σ s0)  : fM (stW1 σ l q) s0 := by
  unfold stW1
  repeat' (first | with_reducible (first | assumption | apply fm_failW | apply fm_stW0 | apply fM.set | apply fM.row | apply fM.it2 | apply fM.it1 | apply fM.ite | exact imgP_lt _ | exact shP_lt _ | exact shP_lt2 _) | omega)
theorem fm_stW {s0 : vW} {σ : vW} {l : Nat} {p : Nat} (hs0 : fM σ s0)  : fM (stW σ l p) s0 := by
  unfold stW
  repeat' (first | with_reducible (first | assumption | apply fm_stW1 | apply fM.set | apply fM.row | apply fM.it2 | apply fM.it1 | apply fM.ite | exact imgP_lt _ | exact shP_lt _ | exact shP_lt2 _) | omega)
theorem fm_stp {s0 : vW} {σ : vW} (hs0 : fM σ s0)  : fM (stp σ) s0 := by
  unfold stp
  repeat' (first | with_reducible (first | assumption | apply fm_stW | apply fM.set | apply fM.row | apply fM.it2 | apply fM.it1 | apply fM.ite | exact imgP_lt _ | exact shP_lt _ | exact shP_lt2 _) | omega)
theorem fm_ln3 {s0 : vW} {σ : vW} {nm : Int32} (hs0 : fM σ s0)  : fM (ln3 σ nm) s0 := by
  unfold ln3
  repeat' (first | with_reducible (first | assumption | apply fM.set | apply fM.row | apply fM.it2 | apply fM.it1 | apply fM.ite | exact imgP_lt _ | exact shP_lt _ | exact shP_lt2 _) | omega)
theorem fm_ln2 {s0 : vW} {σ : vW} {nm : Int32} (hs0 : fM σ s0)  : fM (ln2 σ nm) s0 := by
  unfold ln2
  repeat' (first | with_reducible (first | assumption | apply fm_failW | apply fM.set | apply fM.row | apply fM.it2 | apply fM.it1 | apply fM.ite | exact imgP_lt _ | exact shP_lt _ | exact shP_lt2 _) | omega)
theorem fm_ln1 {s0 : vW} {σ : vW} {nm : Int32} {k : Nat} {m : Nat} (hs0 : fM σ s0)  : fM (ln1 σ nm k m) s0 := by
  unfold ln1
  repeat' (first | with_reducible (first | assumption | apply fm_failW | apply fM.set | apply fM.row | apply fM.it2 | apply fM.it1 | apply fM.ite | exact imgP_lt _ | exact shP_lt _ | exact shP_lt2 _) | omega)
theorem fm_lnA {s0 : vW} {σ : vW} {nm : Int32} {k : Nat} {m : Nat} (hs0 : fM σ s0)  : fM (lnA σ nm k m) s0 := by
  unfold lnA
  repeat' (first | with_reducible (first | assumption | apply fm_ln3 | apply fm_ln2 | apply fm_ln1 | apply fM.set | apply fM.row | apply fM.it2 | apply fM.it1 | apply fM.ite | exact imgP_lt _ | exact shP_lt _ | exact shP_lt2 _) | omega)
theorem fm_lnB {s0 : vW} {σ : vW} {nm : Int32} {k : Nat} {m : Nat} (hs0 : fM σ s0)  : fM (lnB σ nm k m) s0 := by
  unfold lnB
  repeat' (first | with_reducible (first | assumption | apply fm_stp | apply fm_lnA | apply fM.set | apply fM.row | apply fM.it2 | apply fM.it1 | apply fM.ite | exact imgP_lt _ | exact shP_lt _ | exact shP_lt2 _) | omega)
theorem fm_ln5 {s0 : vW} {σ : vW} (hs0 : fM σ s0)  : fM (ln5 σ) s0 := by
  unfold ln5
  repeat' (first | with_reducible (first | assumption | apply fm_failW | apply fM.set | apply fM.row | apply fM.it2 | apply fM.it1 | apply fM.ite | exact imgP_lt _ | exact shP_lt _ | exact shP_lt2 _) | omega)
theorem fm_ot3 {s0 : vW} {σ : vW} {mk : Int32} (hs0 : fM σ s0)  : fM (ot3 σ mk) s0 := by
  unfold ot3
  repeat' (first | with_reducible (first | assumption | apply fm_failW | apply fM.set | apply fM.row | apply fM.it2 | apply fM.it1 | apply fM.ite | exact imgP_lt _ | exact shP_lt _ | exact shP_lt2 _) | omega)
theorem fm_ot2 {s0 : vW} {σ : vW} {lo : Int32} {hi : Int32} (hs0 : fM σ s0)  : fM (ot2 σ lo hi) s0 := by
  unfold ot2
  repeat' (first | with_reducible (first | assumption | apply fm_failW | apply fM.set | apply fM.row | apply fM.it2 | apply fM.it1 | apply fM.ite | exact imgP_lt _ | exact shP_lt _ | exact shP_lt2 _) | omega)
theorem fm_ot1 {s0 : vW} {σ : vW} (hs0 : fM σ s0)  : fM (ot1 σ) s0 := by
  unfold ot1
  repeat' (first | with_reducible (first | assumption | apply fm_failW | apply fM.set | apply fM.row | apply fM.it2 | apply fM.it1 | apply fM.ite | exact imgP_lt _ | exact shP_lt _ | exact shP_lt2 _) | omega)
theorem fm_otA {s0 : vW} {σ : vW} {lo : Int32} {hi : Int32} {mk : Int32} (hs0 : fM σ s0)  : fM (otA σ lo hi mk) s0 := by
  unfold otA
  repeat' (first | with_reducible (first | assumption | apply fm_ot3 | apply fm_ot2 | apply fm_ot1 | apply fM.set | apply fM.row | apply fM.it2 | apply fM.it1 | apply fM.ite | exact imgP_lt _ | exact shP_lt _ | exact shP_lt2 _) | omega)
theorem fm_otW {s0 : vW} {σ : vW} {lo : Int32} {hi : Int32} {mk : Int32} (hs0 : fM σ s0)  : fM (otW σ lo hi mk) s0 := by
  unfold otW
  repeat' (first | with_reducible (first | assumption | apply fm_stp | apply fm_otA | apply fM.set | apply fM.row | apply fM.it2 | apply fM.it1 | apply fM.ite | exact imgP_lt _ | exact shP_lt _ | exact shP_lt2 _) | omega)
theorem fm_rw4 {s0 : vW} {σ : vW} {m : Nat} (hs0 : fM σ s0)  : fM (rw4 σ m) s0 := by
  unfold rw4
  repeat' (first | with_reducible (first | assumption | apply fm_otW | apply fM.set | apply fM.row | apply fM.it2 | apply fM.it1 | apply fM.ite | exact imgP_lt _ | exact shP_lt _ | exact shP_lt2 _) | omega)
theorem fm_rw3 {s0 : vW} {σ : vW} {m : Nat} (hs0 : fM σ s0)  : fM (rw3 σ m) s0 := by
  unfold rw3
  repeat' (first | with_reducible (first | assumption | apply fm_failW | apply fM.set | apply fM.row | apply fM.it2 | apply fM.it1 | apply fM.ite | exact imgP_lt _ | exact shP_lt _ | exact shP_lt2 _) | omega)
theorem fm_rw2 {s0 : vW} {σ : vW} {m : Nat} (hs0 : fM σ s0)  : fM (rw2 σ m) s0 := by
  unfold rw2
  repeat' (first | with_reducible (first | assumption | apply fm_otW | apply fM.set | apply fM.row | apply fM.it2 | apply fM.it1 | apply fM.ite | exact imgP_lt _ | exact shP_lt _ | exact shP_lt2 _) | omega)
theorem fm_rwW {s0 : vW} {σ : vW} {m : Nat} (hs0 : fM σ s0)  : fM (rwW σ m) s0 := by
  unfold rwW
  repeat' (first | with_reducible (first | assumption | apply fm_rw4 | apply fm_rw3 | apply fm_rw2 | apply fM.set | apply fM.row | apply fM.it2 | apply fM.it1 | apply fM.ite | exact imgP_lt _ | exact shP_lt _ | exact shP_lt2 _) | omega)
theorem fm_rr1 {s0 : vW} {σ : vW} (hs0 : fM σ s0)  : fM (rr1 σ) s0 := by
  unfold rr1
  repeat' (first | with_reducible (first | assumption | apply fm_otW | apply fM.set | apply fM.row | apply fM.it2 | apply fM.it1 | apply fM.ite | exact imgP_lt _ | exact shP_lt _ | exact shP_lt2 _) | omega)
theorem fm_rrW {s0 : vW} {σ : vW} (hs0 : fM σ s0)  : fM (rrW σ) s0 := by
  unfold rrW
  repeat' (first | with_reducible (first | assumption | apply fm_otW | apply fm_rr1 | apply fM.set | apply fM.row | apply fM.it2 | apply fM.it1 | apply fM.ite | exact imgP_lt _ | exact shP_lt _ | exact shP_lt2 _) | omega)
theorem fm_whW {s0 : vW} {σ : vW} {mk : Int32} (hs0 : fM σ s0)  : fM (whW σ mk) s0 := by
  unfold whW
  repeat' (first | with_reducible (first | assumption | apply fm_otW | apply fM.set | apply fM.row | apply fM.it2 | apply fM.it1 | apply fM.ite | exact imgP_lt _ | exact shP_lt _ | exact shP_lt2 _) | omega)
theorem fm_rpC {s0 : vW} {σ : vW} {K : Nat} (hs0 : fM σ s0)  : fM (rpC σ K) s0 := by
  unfold rpC
  repeat' (first | with_reducible (first | assumption | apply fm_whW | apply fM.set | apply fM.row | apply fM.it2 | apply fM.it1 | apply fM.ite | exact imgP_lt _ | exact shP_lt _ | exact shP_lt2 _) | omega)
theorem fm_rpA {s0 : vW} {σ : vW} (hs0 : fM σ s0)  : fM (rpA σ) s0 := by
  unfold rpA
  repeat' (first | with_reducible (first | assumption | apply fm_otW | apply fM.set | apply fM.row | apply fM.it2 | apply fM.it1 | apply fM.ite | exact imgP_lt _ | exact shP_lt _ | exact shP_lt2 _) | omega)
theorem fm_rpB {s0 : vW} {σ : vW} {K : Nat} (hs0 : fM σ s0)  : fM (rpB σ K) s0 := by
  unfold rpB
  repeat' (first | with_reducible (first | assumption | apply fm_rpA | apply fM.set | apply fM.row | apply fM.it2 | apply fM.it1 | apply fM.ite | exact imgP_lt _ | exact shP_lt _ | exact shP_lt2 _) | omega)
theorem fm_rpN1 {s0 : vW} {σ : vW} {K : Nat} (hs0 : fM σ s0)  : fM (rpN1 σ K) s0 := by
  unfold rpN1
  repeat' (first | with_reducible (first | assumption | apply fm_rpC | apply fm_rpB | apply fM.set | apply fM.row | apply fM.it2 | apply fM.it1 | apply fM.ite | exact imgP_lt _ | exact shP_lt _ | exact shP_lt2 _) | omega)
theorem fm_rpG {s0 : vW} : ∀ {j : Nat} {w : vW} {k : Nat}, fM w s0 → fM (rpG j w k) s0
  | 0, w, k, h => h
  | j + 1, w, k, h => by
    have ih : ∀ {w : vW} {k : Nat}, fM w s0 → fM (rpG j w k) s0 := fun h => fm_rpG h
    unfold rpG
    repeat' (first | with_reducible (first | assumption | apply ih | apply fm_failW | apply fm_rpN1 | apply fM.set | apply fM.row | apply fM.it2 | apply fM.it1 | apply fM.ite | exact imgP_lt _ | exact shP_lt _ | exact shP_lt2 _) | omega)
theorem fm_rpW {s0 : vW} {σ : vW} {K : Nat} (hs0 : fM σ s0)  : fM (rpW σ K) s0 := by
  unfold rpW
  repeat' (first | with_reducible (first | assumption | apply fm_rpG | apply fM.set | apply fM.row | apply fM.it2 | apply fM.it1 | apply fM.ite | exact imgP_lt _ | exact shP_lt _ | exact shP_lt2 _) | omega)
theorem fm_ro4 {s0 : vW} {σ : vW} {k : Nat} (hs0 : fM σ s0)  : fM (ro4 σ k) s0 := by
  unfold ro4
  repeat' (first | with_reducible (first | assumption | apply fm_whW | apply fM.set | apply fM.row | apply fM.it2 | apply fM.it1 | apply fM.ite | exact imgP_lt _ | exact shP_lt _ | exact shP_lt2 _) | omega)
theorem fm_ro3 {s0 : vW} {σ : vW} {k : Nat} (hs0 : fM σ s0)  : fM (ro3 σ k) s0 := by
  unfold ro3
  repeat' (first | with_reducible (first | assumption | apply fm_otW | apply fM.set | apply fM.row | apply fM.it2 | apply fM.it1 | apply fM.ite | exact imgP_lt _ | exact shP_lt _ | exact shP_lt2 _) | omega)
theorem fm_ro2 {s0 : vW} {σ : vW} {k : Nat} (hs0 : fM σ s0)  : fM (ro2 σ k) s0 := by
  unfold ro2
  repeat' (first | with_reducible (first | assumption | apply fm_otW | apply fM.set | apply fM.row | apply fM.it2 | apply fM.it1 | apply fM.ite | exact imgP_lt _ | exact shP_lt _ | exact shP_lt2 _) | omega)
theorem fm_roW {s0 : vW} {σ : vW} {k : Nat} {kd : Int32} (hs0 : fM σ s0)  : fM (roW σ k kd) s0 := by
  unfold roW
  repeat' (first | with_reducible (first | assumption | apply fm_ro4 | apply fm_ro3 | apply fm_ro2 | apply fM.set | apply fM.row | apply fM.it2 | apply fM.it1 | apply fM.ite | exact imgP_lt _ | exact shP_lt _ | exact shP_lt2 _) | omega)
theorem fm_rmoW {s0 : vW} {σ : vW} {kd : Int32} {k : Nat} {m : Nat} {K : Nat} (hs0 : fM σ s0)  : fM (rmoW σ kd k m K) s0 := by
  unfold rmoW
  repeat' (first | with_reducible (first | assumption | apply fm_rwW | apply fm_rrW | apply fm_rpW | apply fm_roW | apply fM.set | apply fM.row | apply fM.it2 | apply fM.it1 | apply fM.ite | exact imgP_lt _ | exact shP_lt _ | exact shP_lt2 _) | omega)
theorem fm_lnC {s0 : vW} {σ : vW} {nm : Int32} {k : Nat} {m : Nat} {K : Nat} (hs0 : fM σ s0)  : fM (lnC σ nm k m K) s0 := by
  unfold lnC
  repeat' (first | with_reducible (first | assumption | apply fm_lnB | apply fm_rmoW | apply fM.set | apply fM.row | apply fM.it2 | apply fM.it1 | apply fM.ite | exact imgP_lt _ | exact shP_lt _ | exact shP_lt2 _) | omega)
theorem fm_lnZ {s0 : vW} {σ : vW} {nm : Int32} {k : Nat} {m : Nat} {K : Nat} (hs0 : fM σ s0)  : fM (lnZ σ nm k m K) s0 := by
  unfold lnZ
  repeat' (first | with_reducible (first | assumption | apply fm_failW | apply fm_stp | apply fm_lnB | apply fm_ln5 | apply fm_lnC | apply fM.set | apply fM.row | apply fM.it2 | apply fM.it1 | apply fM.ite | exact imgP_lt _ | exact shP_lt _ | exact shP_lt2 _) | omega)
theorem fm_lnW {s0 : vW} {σ : vW} {k : Nat} {m : Nat} {K : Nat} (hs0 : fM σ s0)  : fM (lnW σ k m K) s0 := by
  unfold lnW
  repeat' (first | with_reducible (first | assumption | apply fm_lnZ | apply fM.set | apply fM.row | apply fM.it2 | apply fM.it1 | apply fM.ite | exact imgP_lt _ | exact shP_lt _ | exact shP_lt2 _) | omega)
theorem fm_lnQ {s0 : vW} {W : vW} (hs0 : fM W s0)  : fM (lnQ W) s0 := by
  unfold lnQ
  repeat' (first | with_reducible (first | assumption | apply fm_lnW | apply fM.set | apply fM.row | apply fM.it2 | apply fM.it1 | apply fM.ite | exact imgP_lt _ | exact shP_lt _ | exact shP_lt2 _) | omega)
theorem fm_tx0 {s0 : vW} {σ : vW} (hs0 : fM σ s0)  : fM (tx0 σ) s0 := by
  unfold tx0
  repeat' (first | with_reducible (first | assumption | apply fM.set | apply fM.row | apply fM.it2 | apply fM.it1 | apply fM.ite | exact imgP_lt _ | exact shP_lt _ | exact shP_lt2 _) | omega)
theorem fm_tx1 {s0 : vW} {σ : vW} {k : Nat} (hs0 : fM σ s0)  : fM (tx1 σ k) s0 := by
  unfold tx1
  repeat' (first | with_reducible (first | assumption | apply fm_tx0 | apply fM.set | apply fM.row | apply fM.it2 | apply fM.it1 | apply fM.ite | exact imgP_lt _ | exact shP_lt _ | exact shP_lt2 _) | omega)
theorem fm_txG {s0 : vW} : ∀ {j : Nat} {w : vW} {k : Nat}, fM w s0 → fM (txG j w k).1 s0
  | 0, w, k, h => h
  | j + 1, w, k, h => by
    have ih : ∀ {w : vW} {k : Nat}, fM w s0 → fM (txG j w k).1 s0 := fun h => fm_txG h
    unfold txG
    repeat' (first | with_reducible (first | assumption | apply ih | apply fm_lnQ | apply fM.set | apply fM.row | apply fM.it2 | apply fM.it1 | apply fM.ite | exact imgP_lt _ | exact shP_lt _ | exact shP_lt2 _) | omega)
theorem fm_mBldW {s0 : vW} {σ : vW} {m : Nat} {a : Int32} {b : Int32} (hs0 : fM σ s0)  : fM (mBldW σ m a b) s0 := by
  unfold mBldW
  repeat' (first | with_reducible (first | assumption | apply fM.set | apply fM.row | apply fM.it2 | apply fM.it1 | apply fM.ite | exact imgP_lt _ | exact shP_lt _ | exact shP_lt2 _) | omega)
theorem fm_mBldV {s0 : vW} {σ : vW} {m : Nat} {a : Int32} {b : Int32} (hs0 : fM σ s0)  : fM (mBldV σ m a b) s0 := by
  unfold mBldV
  repeat' (first | with_reducible (first | assumption | apply fm_mBldW | apply fM.set | apply fM.row | apply fM.it2 | apply fM.it1 | apply fM.ite | exact imgP_lt _ | exact shP_lt _ | exact shP_lt2 _) | omega)
theorem fm_mPlnW {s0 : vW} {σ : vW} {K : Nat} {a : Int32} {b : Int32} (hs0 : fM σ s0)  : fM (mPlnW σ K a b) s0 := by
  unfold mPlnW
  repeat' (first | with_reducible (first | assumption | apply fM.set | apply fM.row | apply fM.it2 | apply fM.it1 | apply fM.ite | exact imgP_lt _ | exact shP_lt _ | exact shP_lt2 _) | omega)
theorem fm_mPlnV {s0 : vW} {σ : vW} {n : Nat} {m : Nat} {K : Nat} {a : Int32} {b : Int32} (hs0 : fM σ s0)  : fM (mPlnV σ n m K a b) s0 := by
  unfold mPlnV
  repeat' (first | with_reducible (first | assumption | apply fm_mPlnW | apply fM.set | apply fM.row | apply fM.it2 | apply fM.it1 | apply fM.ite | exact imgP_lt _ | exact shP_lt _ | exact shP_lt2 _) | omega)
theorem fm_mHgW {s0 : vW} {σ : vW} {n : Nat} {g : Nat} {p : Nat} {w : Int32} (hs0 : fM σ s0)  : fM (mHgW σ n g p w) s0 := by
  unfold mHgW
  repeat' (first | with_reducible (first | assumption | apply fM.set | apply fM.row | apply fM.it2 | apply fM.it1 | apply fM.ite | exact imgP_lt _ | exact shP_lt _ | exact shP_lt2 _) | omega)
theorem fm_mFlW {s0 : vW} {σ : vW} {n : Nat} {g : Nat} {w : Int32} (hs0 : fM σ s0)  : fM (mFlW σ n g w) s0 := by
  unfold mFlW
  repeat' (first | with_reducible (first | assumption | apply fM.set | apply fM.row | apply fM.it2 | apply fM.it1 | apply fM.ite | exact imgP_lt _ | exact shP_lt _ | exact shP_lt2 _) | omega)
theorem fm_mSeeW {s0 : vW} {σ : vW} {s : Nat} {p : Int32} {r : Int32} {b : Bool} (hs0 : fM σ s0)  : fM (mSeeW σ s p r b) s0 := by
  unfold mSeeW
  repeat' (first | with_reducible (first | assumption | apply fM.set | apply fM.row | apply fM.it2 | apply fM.it1 | apply fM.ite | exact imgP_lt _ | exact shP_lt _ | exact shP_lt2 _) | omega)
theorem fm_mSeeV {s0 : vW} {σ : vW} {n : Nat} {s : Nat} {p : Int32} {r : Int32} {b : Bool} (hs0 : fM σ s0)  : fM (mSeeV σ n s p r b) s0 := by
  unfold mSeeV
  repeat' (first | with_reducible (first | assumption | apply fm_mSeeW | apply fM.set | apply fM.row | apply fM.it2 | apply fM.it1 | apply fM.ite | exact imgP_lt _ | exact shP_lt _ | exact shP_lt2 _) | omega)
theorem fm_cpW {s0 : vW} {σ : vW} {a : Nat} {b : Nat} (hs0 : fM σ s0)  : fM (cpW σ a b) s0 := by
  unfold cpW
  repeat' (first | with_reducible (first | assumption | apply fM.set | apply fM.row | apply fM.it2 | apply fM.it1 | apply fM.ite | exact imgP_lt _ | exact shP_lt _ | exact shP_lt2 _) | omega)
theorem fm_mBackW {s0 : vW} {σ : vW} {k : Int32} (hs0 : fM σ s0)  : fM (mBackW σ k) s0 := by
  unfold mBackW
  repeat' (first | with_reducible (first | assumption | apply fm_cpW | apply fM.set | apply fM.row | apply fM.it2 | apply fM.it1 | apply fM.ite | exact imgP_lt _ | exact shP_lt _ | exact shP_lt2 _) | omega)
theorem fm_mShtF {s0 : vW} {σ : vW} {s : Nat} {l : Int32} {v : Int32} {k : Nat} (hs0 : fM σ s0)  : fM (mShtF σ s l v k) s0 := by
  unfold mShtF
  repeat' (first | with_reducible (first | assumption | apply fM.set | apply fM.row | apply fM.it2 | apply fM.it1 | apply fM.ite | exact imgP_lt _ | exact shP_lt _ | exact shP_lt2 _) | omega)
theorem fm_mShtW {s0 : vW} {σ : vW} {s : Int32} {l : Int32} {v : Int32} (hs0 : fM σ s0)  : fM (mShtW σ s l v) s0 := by
  unfold mShtW
  repeat' (first | with_reducible (first | assumption | apply fm_mShtF | apply fM.set | apply fM.row | apply fM.it2 | apply fM.it1 | apply fM.ite | exact imgP_lt _ | exact shP_lt _ | exact shP_lt2 _) | omega)
theorem fm_mLayW {s0 : vW} {σ : vW} {n : Nat} {s : Int32} {i : Int32} {v : Int32} (hs0 : fM σ s0)  : fM (mLayW σ n s i v) s0 := by
  unfold mLayW
  repeat' (first | with_reducible (first | assumption | apply fM.set | apply fM.row | apply fM.it2 | apply fM.it1 | apply fM.ite | exact imgP_lt _ | exact shP_lt _ | exact shP_lt2 _) | omega)
theorem fm_hgV {s0 : vW} {t : vW} {n : Nat} {m : Nat} {a : Int32} {w : Int32} (hs0 : fM t s0)  : fM (hgV t n m a w) s0 := by
  unfold hgV
  repeat' (first | with_reducible (first | assumption | apply fm_mHgW | apply fM.set | apply fM.row | apply fM.it2 | apply fM.it1 | apply fM.ite | exact imgP_lt _ | exact shP_lt _ | exact shP_lt2 _) | omega)
theorem fm_rmW {s0 : vW} {σ : vW} {n : Nat} {m : Nat} {s : Nat} {c : Nat} (hs0 : fM σ s0)  : ∀ {k : Nat}, fM (rmW σ n m s c k) s0
  | 0 => by
    unfold rmW
    repeat' (first | with_reducible (first | assumption | apply fm_cpW | apply fm_hgV | apply fM.set | apply fM.row | apply fM.it2 | apply fM.it1 | apply fM.ite | exact imgP_lt _ | exact shP_lt _ | exact shP_lt2 _) | omega)
  | k + 1 => by
    have ih : fM (rmW σ n m s c k) s0 := fm_rmW hs0 
    unfold rmW
    repeat' (first | with_reducible (first | assumption | apply fm_cpW | apply fm_hgV | apply fM.set | apply fM.row | apply fM.it2 | apply fM.it1 | apply fM.ite | exact imgP_lt _ | exact shP_lt _ | exact shP_lt2 _) | omega)
theorem fm_mrG {s0 : vW} {σ : vW} {n : Nat} {m : Nat} {s : Nat} {l : Int32} {f : Int32} (hs0 : fM σ s0) : ∀ {r t : Nat}, fM (mrG σ n m s l f r t).2 s0
  | 0, t => by
    unfold mrG
    repeat' (first | with_reducible (first | assumption | apply fm_cpW | apply fm_rmW | apply fM.set | apply fM.row | apply fM.it2 | apply fM.it1 | apply fM.ite | exact imgP_lt _ | exact shP_lt _ | exact shP_lt2 _) | omega)
  | r + 1, t => by
    have ih : ∀ {t : Nat}, fM (mrG σ n m s l f r t).2 s0 := fm_mrG hs0
    unfold mrG
    repeat' (first | with_reducible (first | assumption | apply ih | apply fm_cpW | apply fm_rmW | apply fM.set | apply fM.row | apply fM.it2 | apply fM.it1 | apply fM.ite | exact imgP_lt _ | exact shP_lt _ | exact shP_lt2 _) | omega)
theorem fm_mReadW {s0 : vW} {σ : vW} {n : Nat} {m : Nat} {s : Int32} {l : Int32} {f : Int32} {c : Int32} (hs0 : fM σ s0)  : fM (mReadW σ n m s l f c) s0 := by
  unfold mReadW
  repeat' (first | with_reducible (first | assumption | apply fm_mrG | apply fM.set | apply fM.row | apply fM.it2 | apply fM.it1 | apply fM.ite | exact imgP_lt _ | exact shP_lt _ | exact shP_lt2 _) | omega)
theorem fm_mText {s0 σ : vW} (h : fM σ s0) : fM (mText σ).2 s0 := by
  unfold mText txE
  repeat' (first | with_reducible (first | assumption | apply fm_txG | apply fm_txC | apply fm_txD | apply fm_stp | apply fm_tx1 | apply fM.it2))
