def tcLw (l : List (Nat × av_O)) : Bool := l.all fun q => av_chk tPz tK tCl tI 396 tmk (tmo 395) 395 (av_ini tPz 395) (av_me tPz 395).2.1 q.1 q.2.1 q.2.2.1 q.2.2.2
