import java.util.function.LongConsumer;

/** All that can be seen of an object, as a text; looking at it leaves the STATUS as it was last seen alone. */
final class Shot {
    private Shot() {
    }

    static String of(KiteLand x) {
        StringBuilder text = new StringBuilder();
        text.append(x.top()).append('/').append(x.bottom()).append(" fault ").append(x.fault(0)).append(' ').append(x.fault(1));
        for (int what = 0; what < 11; what++) {
            text.append(" told ").append(x.told(what));
        }
        for (int hour = 0; hour < 12; hour++) {
            text.append(" wind ").append(x.wind(hour, 0)).append(' ').append(x.wind(hour, 1));
        }
        for (int i = 0; i < x.told(2); i++) {
            text.append(" kite");
            for (int what = 0; what < 8; what++) {
                text.append(' ').append(x.kite(i, what));
            }
        }
        for (int i = 0; i < x.told(3); i++) {
            text.append(" crop");
            for (int what = 0; what < 4; what++) {
                text.append(' ').append(x.crop(i, what));
            }
        }
        for (int i = 0; i < x.told(4); i++) {
            text.append(" tenant");
            for (int what = 0; what < 5; what++) {
                text.append(' ').append(x.tenant(i, what));
            }
        }
        for (int tray = 0; tray < 4; tray++) {
            x.read(tray, 60);
            text.append(" tray").append(x.status());
            for (int place = 0; place < 60; place++) {
                text.append(' ').append(x.read(tray, place)).append(',').append(x.status());
            }
        }
        for (int i = 0; i < 6; i++) {
            text.append(" fly ").append(x.flyAt(i)).append(" lived ").append(x.lived(i));
        }
        return text.toString();
    }

    /** What can be asked of an object and leaves all but the FRACTION, a TRAY and flyAt() as it is. */
    static String asked(KiteLand x) {
        StringBuilder text = new StringBuilder("\nasked");
        LongConsumer tell = answer -> text.append(' ').append(answer).append(',').append(x.status());
        int kites = x.told(2);
        tell.accept(x.doomed());
        tell.accept(x.busiest());
        tell.accept(x.greatest());
        tell.accept(x.needed());
        tell.accept(x.telling());
        tell.accept(x.settle(3));
        tell.accept(x.plant(9));
        tell.accept(x.planted(9));
        for (int hour = 0; hour < 12; hour++) {
            tell.accept(x.nobodys(hour));
            tell.accept(x.disputed(hour));
            tell.accept(x.coverSet(0, 2, hour));
            for (int column = 0; column < 9; column++) {
                tell.accept(x.owner(column, column % 7, hour));
                tell.accept(x.shaders(column, column % 7, hour));
            }
            for (int kite = 0; kite < kites; kite++) {
                tell.accept(x.stands(kite, hour, 0));
                tell.accept(x.stands(kite, hour, 1));
                tell.accept(x.estate(kite, hour));
                tell.accept(x.crosses(kite, (kite + 1) % kites, hour));
            }
        }
        for (int kite = 0; kite < kites; kite++) {
            tell.accept(x.lulls(kite));
            tell.accept(x.cutIn(kite));
            tell.accept(x.purseIn(kite, 20));
            tell.accept(x.leaseOf(2, 3, kite, 20));
            tell.accept(x.duel(kite, (kite + 1) % kites, 2));
            tell.accept(x.duelStep(kite, (kite + 1) % kites, 1));
            tell.accept(x.share(kite) ? x.top() : -1);
            tell.accept(x.mean(kite, 7, 2) ? x.top() : -1);
        }
        for (int i = 0; i < 8; i++) {
            tell.accept(x.ripe(i));
            tell.accept(x.tenantIn(i, 20));
            tell.accept(x.strips(i));
            tell.accept(x.suspects(i, 1));
            tell.accept(x.strip(0, i, 1));
            tell.accept(x.read(1, i));
        }
        tell.accept(x.fly(0, 4, 3, 2));
        tell.accept(x.flyAt(0));
        return text.toString();
    }
}
