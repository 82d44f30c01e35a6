/-- THE MODEL'S SEARCH AND THE CLASS' OWN TEST OF A WRONG WEAVE AGREE -/
theorem ex_main {σ g nw : Nat → Nat} (hw : wf σ) {w r : Nat} (h1 : w < nW σ) (h2 : r < σ 0) : asB σ (va_up (rtG σ g (nW σ)) w (rtG σ g (nW σ) w ^^^ 1 <<< r)) (nwG σ nw (nA σ)) (nA σ) = exE σ w r := ex_all hw h1 h2
