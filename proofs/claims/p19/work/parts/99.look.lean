theorem zz_look : True := zz_a
