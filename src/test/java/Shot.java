/** All that can be seen of an object, as a text; looking at it leaves the STATUS as it was last seen alone. */
final class Shot {
    private Shot() {
    }

    static String of(KiteLand x) {
        StringBuilder text = new StringBuilder();
        text.append(x.top()).append('/').append(x.bottom()).append(" fault ").append(x.fault(0)).append(' ').append(x.fault(1));
        for (int what = 0; what < 11; what++) {
            text.append(" told ").append(x.told(what));
        }
        for (int hour = 0; hour < 12; hour++) {
            text.append(" wind ").append(x.wind(hour, 0)).append(' ').append(x.wind(hour, 1));
        }
        for (int i = 0; i < x.told(2); i++) {
            text.append(" kite");
            for (int what = 0; what < 8; what++) {
                text.append(' ').append(x.kite(i, what));
            }
        }
        for (int i = 0; i < x.told(3); i++) {
            text.append(" crop");
            for (int what = 0; what < 4; what++) {
                text.append(' ').append(x.crop(i, what));
            }
        }
        for (int i = 0; i < x.told(4); i++) {
            text.append(" tenant");
            for (int what = 0; what < 5; what++) {
                text.append(' ').append(x.tenant(i, what));
            }
        }
        for (int tray = 0; tray < 4; tray++) {
            x.read(tray, 60);
            text.append(" tray").append(x.status());
            for (int place = 0; place < 60; place++) {
                text.append(' ').append(x.read(tray, place)).append(',').append(x.status());
            }
        }
        for (int i = 0; i < 6; i++) {
            text.append(" fly ").append(x.flyAt(i)).append(" lived ").append(x.lived(i));
        }
        return text.toString();
    }
}
