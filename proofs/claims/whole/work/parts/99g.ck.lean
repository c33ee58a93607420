/-! the first street, looked at -/
theorem ckH2s : ckR shH (runS shH 4000 28 0 (ent [.ref 0]) [] mH1) mH2 = true := by decide +kernel
theorem ckH2 : ckR shH (run shH 4000 28 0 (ent [.ref 0]) [] mH1) mH2 = true := by rw [← runS_eq]; exact ckH2s
def shM : List (Nat × Nat × List Nat) := [(10, 0, [0, 3, 4, 0, 5, 0, 6, 0, 7, 8, 0, 9, 0, 0, 1, 0, 0, 0, 0, 0, 0, 0, 0, 10, 0, 0, 11, 12, 0, 13, 0, 14, 0, 15, 16, 17, 18]), (100, 10, []), (100, 10, []), (100, 24, []), (100, 30, []), (100, 30, []), (100, 100, []), (100, 200, []), (100, 60, []), (100, 4, []), (101, 2, []), (100, 12, []), (100, 40, []), (100, 36, []), (100, 10, []), (100, 10, []), (100, 10, [])]
theorem shM_ok : okS shM = true := by decide +kernel
def mM0 : mm := (fun k j => if k = 0 ∧ j = 0 then 4 else 0, 0)
def mM1 : mm := (fun k j => if k ≤ 2 then iI (tb (51 + k) j) else 0, 0)
def mM2 : mm := (fun k j => iI (tb (51 + k) j), 0)
theorem ckM1s : ckR shM (runS shM 400 121 0 (ent [.ref 0]) [] mM0) mM1 = true := by decide +kernel
theorem ckM2s : ckR shM (runS shM 4000 122 0 (ent [.ref 0]) [] mM1) mM2 = true := by decide +kernel
theorem ckM1 : ckR shM (run shM 400 121 0 (ent [.ref 0]) [] mM0) mM1 = true := by rw [← runS_eq]; exact ckM1s
theorem ckM2 : ckR shM (run shM 4000 122 0 (ent [.ref 0]) [] mM1) mM2 = true := by rw [← runS_eq]; exact ckM2s
