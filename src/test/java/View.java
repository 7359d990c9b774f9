/** All that a chip tells, as one text: two equal views mean that nothing that can be asked has changed. */
final class View {
    private View() {
    }

    static String of(Wattgovern x) {
        StringBuilder view = new StringBuilder();
        for (int core = 0; core < 6; core++) {
            if (hasCore(x, core)) {
                view.append("core").append(core).append(' ').append(x.speed(core)).append(' ').append(x.wanted(core));
                view.append(' ').append(x.clamp(core)).append(x.sleep(core)).append(x.isBusy(core));
                view.append(' ').append(x.need(core, 4)).append(' ').append(x.heat(core)).append(' ').append(sensor(x, core));
                view.append(' ').append(x.isTripped(core)).append(' ').append(x.age(core)).append('\n');
            }
        }
        for (int thread = 0; thread < 8; thread++) {
            if (hasThread(x, thread)) {
                view.append("thread").append(thread).append(' ').append(x.work(thread));
                view.append(' ').append(x.isCold(thread)).append('\n');
            }
        }
        for (int rail = 0; rail < 3; rail++) {
            view.append(x.volts(rail)).append(' ');
        }
        view.append(x.caseDegrees()).append(' ').append(x.fan()).append(' ').append(x.battery()).append(' ');
        view.append(x.purse()).append(' ').append(x.taken()).append(' ').append(x.owed()).append(' ').append(x.holds());
        for (char kind : "wbohat".toCharArray()) {
            view.append(' ').append(x.account(kind));
        }
        return view.append(' ').append(x.checksum()).append(' ').append(x.isSound()).toString();
    }

    static boolean hasCore(Wattgovern x, int core) {
        try {
            x.heat(core);
            return true;
        } catch (IndexOutOfBoundsException none) {
            return false;
        }
    }

    static boolean hasThread(Wattgovern x, int thread) {
        try {
            x.work(thread);
            return true;
        } catch (IndexOutOfBoundsException none) {
            return false;
        }
    }

    private static String sensor(Wattgovern x, int core) {
        try {
            return String.valueOf(x.sensor(core));
        } catch (java.util.NoSuchElementException lost) {
            return "lost";
        }
    }
}
