def tcLw (l : List (Nat × av_O)) : Bool := l.all fun q => av_chk tP0 tK tCl tI 396 tmk (tmo 395) 395 (av_ini tP0 395) (av_me tP0 395).2.1 q.1 q.2.1 q.2.2.1 q.2.2.2
