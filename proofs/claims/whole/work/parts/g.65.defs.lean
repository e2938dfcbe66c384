/-! ===== THE TABLES ARE RIGHT (by wip/whole/gen3.py) ===== -/
abbrev tPz : av_P := tP 0 (fun _ => 0)
def tcO (a b : Nat) : Bool := (List.range b).all fun j => (tOp.getD (a + j) []).all fun q => av_chk tPz tK tCl tI 396 tmk (tmo (a + j)) (a + j) (av_ini tPz (a + j)) (av_me tPz (a + j)).2.1 q.1 q.2.1 q.2.2.1 q.2.2.2
