abbrev vwCl : List vw_C := [(RX0, TX0, 2), (RX1, TX1, 3), (RX2, TX2, 11), (RX3, TX3, 2), (RX4, TX4, 5), (RX5, TX5, 3), (RX6, TX6, 10), (RX7, TX7, 34)]
