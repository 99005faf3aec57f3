/** All that can be asked of a land, as one text, so that two lands can be compared. */
final class Look {
    /** So that a look at a land with many events keeps to the calls of an object. */
    private static final int MOST_EVENTS = 60;

    private Look() {
    }

    static String at(Aquiferward land, int wells) {
        StringBuilder text = new StringBuilder();
        for (int cell = 0; cell < 16; cell++) {
            text.append(" cell ").append(cell).append(": ").append(land.level(cell)).append(' ').append(land.water(cell));
            text.append(' ').append(land.salt(cell));
        }
        for (int well = 0; well < wells; well++) {
            text.append(" well ").append(well).append(": ").append(land.amount(well)).append(' ').append(land.yearly(well));
            text.append(' ').append(land.pumped(well)).append(' ').append(land.isShut(well)).append(' ').append(land.byAge(well));
            for (int other = 0; other < wells; other++) {
                if (other != well) {
                    text.append(' ').append(land.pumpedWithout(well, other));
                }
            }
        }
        int events = land.events();
        text.append(" events ").append(events).append(": ");
        for (int at = Math.max(0, events - MOST_EVENTS); at < events; at++) {
            text.append(land.eventAt(at));
        }
        for (char what : "wrpiosnml".toCharArray()) {
            text.append(' ').append(what).append(' ').append(land.account(what));
        }
        text.append(" sum ").append(land.checksum()).append(" dry ").append(land.dryShare());
        text.append(" mean ").append(land.meanLevel()).append(" sound ").append(land.isSound());
        return text.toString();
    }

    /** What the land tells as it is set anew: all that was set. */
    static String atSettings(Aquiferward land, int wells) {
        StringBuilder text = new StringBuilder();
        for (int column = 0; column < 8; column++) {
            text.append(" column ").append(column).append(": ").append(land.setGround(column, 0)).append(' ');
            text.append(land.setLeakage(column, 0)).append(' ').append(land.setRain(column, 0)).append(' ');
            text.append(land.setBed(column, 0, 0));
        }
        text.append(" layers ").append(land.setConductance(0, 0)).append(' ').append(land.setConductance(1, 0));
        text.append(" river ").append(land.setRiver(0)).append(" sea ").append(land.setSea(0));
        for (int well = 0; well < wells; well++) {
            text.append(" wish ").append(land.setWish(well, 0));
        }
        return text.toString();
    }
}
