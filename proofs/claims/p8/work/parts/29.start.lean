def gi0 : gm_M := ([(0, 0)], fun _ _ => 0, fun _ _ => 0)
def gi1 : gm_M := gm_nw gi0 16 10
def gi2 : gm_M := (gm_bV (f_X11_init 1 gi1) (fun m => some m)).getD gi0
def gi3 : gm_M := gm_nw gi2 17 23
def gi5 : gm_M := (gm_bV (f_X12_init 65 gi3) (fun m => some m)).getD gi0
def gm_isV (z : Option (Option Value × gm_M)) : Bool := match z with
  | some (none, _) => true
  | _ => false
theorem gm_isV_spec {z : Option (Option Value × gm_M)} (h : gm_isV z = true) (d : gm_M) : z = some (none, (gm_bV z (fun m => some m)).getD d) := by
  unfold gm_isV at h
  match z, h with
  | some (none, m), _ => rfl
theorem gi_init : f_X11_init 1 gi1 = some (none, gi2) := gm_isV_spec (by decide +kernel) gi0
theorem gi_len : gi2.1.length = 65 := by decide +kernel
theorem gi_init2 : f_X12_init 65 gi3 = some (none, gi5) := gm_isV_spec (by decide +kernel) gi0
